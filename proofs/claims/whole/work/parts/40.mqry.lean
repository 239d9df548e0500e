/-! ===== queries of slots and rules ===== -/
theorem m_inSlot (U : xP) (M : xM) (x : Int32) {w : Nat} (hw : w < 7) : xMetI U mX4_inSlot [.inr 9, .inl x, .inl (nI w)] M (fun r M' => r = (if ixB x 32 then (if aoc (nA M) x.toNatClampNeg then M 10 (7 * x.toNatClampNeg + w) else -4) else -1) ∧ M' = M) := by
  refine xMetI.of (ty := .int) (L := [some (.inr 9), some (.inl x), some (.inl (nI w))]) fX4_inSlot rfl rfl (Nat.le_of_ble_eq_true rfl) (fun G hN hO hR => ?_)
  have hN : G.2.2.2.2.2.2.2.2.2.2.1 = 3 := hN
  have hO : xOK U G RX4 cX4_inSlot 2 := hO
  refine x_iload_n hO dX4_inSlot_0 rfl rfl ?_
  refine x_callS1 hO (m_isSlot U M x) dX4_inSlot_1 lkX4_168 fX4_isSlot sX4_isSlot rfl rfl (by decide) (Nat.le_of_ble_eq_true rfl) ?_
  refine x_if_ne (tgt := 11) hO dX4_inSlot_4 (by decide) (fun c => ?_) (fun c => ?_)
  · have q := bI_1 c
    rw [if_pos q] at hR
    obtain ⟨ej, hj⟩ := ixB_c (by decide) q
    generalize x.toNatClampNeg = j at *
    subst ej
    refine x_aload_n hO dX4_inSlot_11 rfl rfl ?_
    refine x_iload_n hO dX4_inSlot_12 rfl rfl ?_
    refine x_callV1 hO (m_isFree U M hj) dX4_inSlot_13 lkX4_51 fX4_isFree vX4_isFree (by decide) rfl rfl rfl rfl rfl (by decide) (Nat.le_of_ble_eq_true rfl) ?_
    refine x_if_eq (tgt := 24) hO dX4_inSlot_16 (by decide) (fun c2 => ?_) (fun c2 => ?_)
    · have e : aoc (nA M) j = true := by simpa using bI_0 c2
      rw [if_pos e] at hR
      refine x_aload_n hO dX4_inSlot_24 rfl rfl ?_
      refine x_iload_n hO dX4_inSlot_25 rfl rfl ?_
      refine x_iload_n hO dX4_inSlot_26 rfl rfl ?_
      refine x_callV1 hO (m_at0 U M hj hw) dX4_inSlot_27 lkX4_55 fX4_at vX4_at (by decide) rfl rfl rfl rfl rfl (by decide) (Nat.le_of_ble_eq_true rfl) ?_
      refine x_iret hO hR dX4_inSlot_30 rfl ?_
      exact ⟨rfl, rfl⟩
    · have e : aoc (nA M) j = false := by simpa using bI_1 c2
      rw [if_neg (by rw [e]; decide)] at hR
      refine x_bipush (v := (-4 : Int32)) hO dX4_inSlot_19 rfl ?_
      refine x_goto (tgt := 30) hO dX4_inSlot_21 (by decide) ?_
      refine x_iret hO hR dX4_inSlot_30 rfl ?_
      exact ⟨rfl, rfl⟩
  · rw [if_neg (by rw [bI_0 c]; decide)] at hR
    refine x_iconst (v := (-1 : Int32)) hO dX4_inSlot_7 rfl ?_
    refine x_goto (tgt := 30) hO dX4_inSlot_8 (by decide) ?_
    refine x_iret hO hR dX4_inSlot_30 rfl ?_
    exact ⟨rfl, rfl⟩
theorem q_in_eq {M : xM} {x : Int32} {w : Nat} (h0 : 0 < w) (hw : w < 6) : (if ixB x 32 then (if aoc (nA M) x.toNatClampNeg then M 10 (7 * x.toNatClampNeg + w) else -4) else -1) = q_in (nA M) w x := by
  unfold q_in
  split
  · split
    · rename_i q
      have := mA_in (M := M) (c := 10) (o := 0) q h0 hw
      rw [Nat.zero_add] at this
      exact this
    · rfl
  · rfl
theorem km_maskIn (U : xP) (M : xM) {s : aO} (h : RM M s) (x : Int32) : xMetI U mX4_maskIn [.inr 9, .inl x] M (quC M (q_in s.1.1 2 x)) := by
  refine xMetI.of (ty := .int) (L := [some (.inr 9), some (.inl x)]) fX4_maskIn rfl rfl (Nat.le_of_ble_eq_true rfl) (fun G hN hO hR => ?_)
  have hN : G.2.2.2.2.2.2.2.2.2.2.1 = 2 := hN
  have hO : xOK U G RX4 cX4_maskIn 3 := hO
  refine x_aload_n hO dX4_maskIn_0 rfl rfl ?_
  refine x_iload_n hO dX4_maskIn_1 rfl rfl ?_
  refine x_iconst (v := nI 2) hO dX4_maskIn_2 rfl ?_
  refine x_callV1 hO (m_inSlot U M x (w := 2) (by decide)) dX4_maskIn_3 lkX4_171 fX4_inSlot vX4_inSlot (by decide) rfl rfl rfl rfl rfl (by decide) (Nat.le_of_ble_eq_true rfl) ?_
  rw [q_in_eq (by decide) (by decide), h.rows]
  refine x_iret hO hR dX4_maskIn_6 rfl ?_
  exact ⟨rfl, rfl⟩
theorem km_valueIn (U : xP) (M : xM) {s : aO} (h : RM M s) (x : Int32) : xMetI U mX4_valueIn [.inr 9, .inl x] M (quC M (q_in s.1.1 3 x)) := by
  refine xMetI.of (ty := .int) (L := [some (.inr 9), some (.inl x)]) fX4_valueIn rfl rfl (Nat.le_of_ble_eq_true rfl) (fun G hN hO hR => ?_)
  have hN : G.2.2.2.2.2.2.2.2.2.2.1 = 2 := hN
  have hO : xOK U G RX4 cX4_valueIn 3 := hO
  refine x_aload_n hO dX4_valueIn_0 rfl rfl ?_
  refine x_iload_n hO dX4_valueIn_1 rfl rfl ?_
  refine x_iconst (v := nI 3) hO dX4_valueIn_2 rfl ?_
  refine x_callV1 hO (m_inSlot U M x (w := 3) (by decide)) dX4_valueIn_3 lkX4_171 fX4_inSlot vX4_inSlot (by decide) rfl rfl rfl rfl rfl (by decide) (Nat.le_of_ble_eq_true rfl) ?_
  rw [q_in_eq (by decide) (by decide), h.rows]
  refine x_iret hO hR dX4_valueIn_6 rfl ?_
  exact ⟨rfl, rfl⟩
theorem i32_sz (m : Int32) : nI 255 - m = 0 ↔ m = nI 255 := by
  constructor
  · intro h
    have := congrArg (fun z => z + m) h
    simpa [Int32.sub_add_cancel] using this.symm
  · rintro rfl
    rfl
theorem km_sortIn (U : xP) (M : xM) {s : aO} (h : RM M s) (x : Int32) : xMetI U mX4_sortIn [.inr 9, .inl x] M (quC M (q_sort s.1.1 x)) := by
  refine xMetI.of (ty := .int) (L := [some (.inr 9), some (.inl x), none, none]) fX4_sortIn rfl rfl (Nat.le_of_ble_eq_true rfl) (fun G hN hO hR => ?_)
  have hN : G.2.2.2.2.2.2.2.2.2.2.1 = 4 := hN
  have hO : xOK U G RX4 cX4_sortIn 3 := hO
  unfold q_sort aSo at hR
  refine x_aload_n hO dX4_sortIn_0 rfl rfl ?_
  refine x_iload_n hO dX4_sortIn_1 rfl rfl ?_
  refine x_iconst (v := nI 2) hO dX4_sortIn_2 rfl ?_
  refine x_callV1 hO (m_inSlot U M x (w := 2) (by decide)) dX4_sortIn_3 lkX4_171 fX4_inSlot vX4_inSlot (by decide) rfl rfl rfl rfl rfl (by decide) (Nat.le_of_ble_eq_true rfl) ?_
  rw [q_in_eq (by decide) (by decide), h.rows]
  generalize q_in s.1.1 2 x = m at *
  refine x_istore_n (n := 4) hO dX4_sortIn_6 rfl rfl (by decide) hN ?_
  refine x_iload_n hO dX4_sortIn_7 rfl rfl ?_
  refine x_if_ge (tgt := 13) hO dX4_sortIn_8 (by decide) (fun c => ?_) (fun c => ?_)
  · rw [if_neg (Int32.not_lt.mpr c)] at hR
    refine x_sipush (v := nI 255) hO dX4_sortIn_13 rfl ?_
    refine x_iload_n hO dX4_sortIn_16 rfl rfl ?_
    refine x_isub hO dX4_sortIn_17 ?_
    refine x_istore_n (n := 4) hO dX4_sortIn_18 rfl rfl (by decide) hN ?_
    refine x_iload_n hO dX4_sortIn_19 rfl rfl ?_
    refine x_if_ne (tgt := 27) hO dX4_sortIn_20 (by decide) (fun c2 => ?_) (fun c2 => ?_)
    · rw [if_neg (fun z => c2 ((i32_sz m).mpr z))] at hR
      refine x_iload_n hO dX4_sortIn_27 rfl rfl ?_
      refine x_iload_n hO dX4_sortIn_28 rfl rfl ?_
      refine x_iconst (v := nI 1) hO dX4_sortIn_29 rfl ?_
      refine x_iadd hO dX4_sortIn_30 ?_
      refine x_iand hO dX4_sortIn_31 ?_
      refine x_if_ne (tgt := 39) hO dX4_sortIn_32 (by decide) (fun c3 => ?_) (fun c3 => ?_)
      · rw [if_neg c3] at hR
        refine x_iconst (v := nI 2) hO dX4_sortIn_39 rfl ?_
        refine x_iret hO hR dX4_sortIn_40 rfl ?_
        exact ⟨rfl, rfl⟩
      · rw [if_pos c3] at hR
        refine x_iconst (v := nI 1) hO dX4_sortIn_35 rfl ?_
        refine x_goto (tgt := 40) hO dX4_sortIn_36 (by decide) ?_
        refine x_iret hO hR dX4_sortIn_40 rfl ?_
        exact ⟨rfl, rfl⟩
    · rw [if_pos ((i32_sz m).mp c2)] at hR
      refine x_iconst (v := nI 0) hO dX4_sortIn_23 rfl ?_
      refine x_goto (tgt := 40) hO dX4_sortIn_24 (by decide) ?_
      refine x_iret hO hR dX4_sortIn_40 rfl ?_
      exact ⟨rfl, rfl⟩
  · rw [if_pos (Int32.not_le.mp c)] at hR
    refine x_iload_n hO dX4_sortIn_11 rfl rfl ?_
    refine x_iret hO hR dX4_sortIn_12 rfl ?_
    exact ⟨rfl, rfl⟩
theorem km_ruleIn (U : xP) (M : xM) {s : aO} (h : RM M s) {B : Nat} (w : WfO s B) (hB : B < 900000) (x : Int32) : xMetI U mX4_ruleIn [.inr 9, .inl x] M (quC M (q_in s.1.1 0 x)) := by
  refine xMetI.of (ty := .int) (L := [some (.inr 9), some (.inl x), none]) fX4_ruleIn rfl rfl (Nat.le_of_ble_eq_true rfl) (fun G hN hO hR => ?_)
  have hN : G.2.2.2.2.2.2.2.2.2.2.1 = 3 := hN
  have hO : xOK U G RX4 cX4_ruleIn 3 := hO
  obtain ⟨⟨a0, l0, -, wA⟩, -, -⟩ := w
  unfold q_in at hR
  rw [← h.rows] at hR wA
  refine x_aload_n hO dX4_ruleIn_0 rfl rfl ?_
  refine x_iload_n hO dX4_ruleIn_1 rfl rfl ?_
  refine x_iconst (v := nI 0) hO dX4_ruleIn_2 rfl ?_
  refine x_callV1 hO (m_inSlot U M x (w := 0) (by decide)) dX4_ruleIn_3 lkX4_171 fX4_inSlot vX4_inSlot (by decide) rfl rfl rfl rfl rfl (by decide) (Nat.le_of_ble_eq_true rfl) ?_
  refine x_istore_n (n := 3) hO dX4_ruleIn_6 rfl rfl (by decide) hN ?_
  refine x_iload_n hO dX4_ruleIn_7 rfl rfl ?_
  by_cases q : ixB x 32 = true
  · rw [if_pos q] at hR ⊢
    by_cases q2 : aoc (nA M) x.toNatClampNeg = true
    · rw [if_pos q2] at hR ⊢
      obtain ⟨r, r1, r2⟩ := (wA.2.2.2.1 _ q2).1
      have e0 : M 10 (7 * x.toNatClampNeg + 0) = nI (r + 1) := by
        have := mA_0 (M := M) (c := 10) (o := 0) q2
        rw [Nat.zero_add] at this
        have this : M 10 (7 * x.toNatClampNeg) - 1 = nI r := this.trans r2
        rw [i32_s1] at this
        exact this.trans (nI_1c r)
      rw [e0]
      refine x_if_ge (tgt := 15) hO dX4_ruleIn_8 (by decide) (fun c => ?_) (fun c => ?_)
      · refine x_iload_n hO dX4_ruleIn_15 rfl rfl ?_
        refine x_iconst (v := nI 1) hO dX4_ruleIn_16 rfl ?_
        refine x_isub hO dX4_ruleIn_17 ?_
        rw [nI_sub1]
        refine x_iret hO hR dX4_ruleIn_18 rfl ?_
        exact ⟨r2.symm, rfl⟩
      · exact absurd (Int32.not_le.mp c) (nI_pos (n := r + 1) (by omega))
    · rw [if_neg q2] at hR ⊢
      refine x_if_ge (tgt := 15) hO dX4_ruleIn_8 (by decide) (fun c => ?_) (fun c => ?_)
      · exact absurd c (by decide)
      · refine x_iload_n hO dX4_ruleIn_11 rfl rfl ?_
        refine x_goto (tgt := 18) hO dX4_ruleIn_12 (by decide) ?_
        refine x_iret hO hR dX4_ruleIn_18 rfl ?_
        exact ⟨rfl, rfl⟩
  · rw [if_neg q] at hR ⊢
    refine x_if_ge (tgt := 15) hO dX4_ruleIn_8 (by decide) (fun c => ?_) (fun c => ?_)
    · exact absurd c (by decide)
    · refine x_iload_n hO dX4_ruleIn_11 rfl rfl ?_
      refine x_goto (tgt := 18) hO dX4_ruleIn_12 (by decide) ?_
      refine x_iret hO hR dX4_ruleIn_18 rfl ?_
      exact ⟨rfl, rfl⟩
theorem km_slotOf (U : xP) (M : xM) {s : aO} (h : RM M s) {B : Nat} (w : WfO s B) (x y : Int32) : xMetI U mX4_slotOf [.inr 9, .inl x, .inl y] M (quC M (q_slotOf s.1.1 x y)) := by
  refine xMetI.of (ty := .int) (L := [some (.inr 9), some (.inl x), some (.inl y), none]) fX4_slotOf rfl rfl (Nat.le_of_ble_eq_true rfl) (fun G hN hO hR => ?_)
  have hN : G.2.2.2.2.2.2.2.2.2.2.1 = 4 := hN
  have hO : xOK U G RX4 cX4_slotOf 2 := hO
  obtain ⟨⟨a0, l0, -, wA⟩, -, -⟩ := w
  unfold q_slotOf aN at hR
  have l := nF_32 (pPart s.1.1 x y)
  refine x_aload_n hO dX4_slotOf_0 rfl rfl ?_
  refine x_iload_n hO dX4_slotOf_1 rfl rfl ?_
  refine x_iload_n hO dX4_slotOf_2 rfl rfl ?_
  refine x_callV1 hO (m_slotWith U M (a := a0) (by rw [h.rows]; exact wA) x y) dX4_slotOf_3 lkX4_109 fX4_slotWith vX4_slotWith (by decide) rfl rfl rfl rfl rfl (by decide) (Nat.le_of_ble_eq_true rfl) ?_
  rw [h.rows]
  generalize nF (pPart s.1.1 x y) 0 32 = f at *
  refine x_istore_n (n := 4) hO dX4_slotOf_6 rfl rfl (by decide) hN ?_
  refine x_iload_n hO dX4_slotOf_7 rfl rfl ?_
  refine x_bipush (v := nI 32) hO dX4_slotOf_8 rfl ?_
  refine x_icmp_ne (tgt := 17) hO dX4_slotOf_10 (by decide) (fun c => ?_) (fun c => ?_)
  · rw [if_pos (by rcases Nat.lt_or_ge f 32 with z | z; exact z; exact absurd (by rw [show f = 32 by omega]) c)] at hR
    refine x_iload_n hO dX4_slotOf_17 rfl rfl ?_
    refine x_iret hO hR dX4_slotOf_18 rfl ?_
    exact ⟨rfl, rfl⟩
  · rw [if_neg (by have := (nI_eq (by omega) (by decide)).mp c; omega)] at hR
    refine x_iconst (v := (-1 : Int32)) hO dX4_slotOf_13 rfl ?_
    refine x_goto (tgt := 18) hO dX4_slotOf_14 (by decide) ?_
    refine x_iret hO hR dX4_slotOf_18 rfl ?_
    exact ⟨rfl, rfl⟩
theorem km_parts (U : xP) (M : xM) {s : aO} (h : RM M s) {B : Nat} (w : WfO s B) (x : Int32) : xMetI U mX4_parts [.inr 9, .inl x] M (quC M (q_parts s.1.1 x)) := by
  refine xMetI.of (ty := .int) (L := [some (.inr 9), some (.inl x)]) fX4_parts rfl rfl (Nat.le_of_ble_eq_true rfl) (fun G hN hO hR => ?_)
  have hN : G.2.2.2.2.2.2.2.2.2.2.1 = 2 := hN
  have hO : xOK U G RX4 cX4_parts 3 := hO
  obtain ⟨⟨a0, l0, -, wA⟩, -, -⟩ := w
  unfold q_parts at hR
  refine x_aload_n hO dX4_parts_0 rfl rfl ?_
  refine x_iload_n hO dX4_parts_1 rfl rfl ?_
  refine x_callV1 hO (m_isRule U M (a := a0) (by rw [h.rows]; exact wA) x) dX4_parts_2 lkX4_112 fX4_isRule vX4_isRule (by decide) rfl rfl rfl rfl rfl (by decide) (Nat.le_of_ble_eq_true rfl) ?_
  rw [h.rows]
  refine x_if_eq (tgt := 16) hO dX4_parts_5 (by decide) (fun c => ?_) (fun c => ?_)
  · rw [if_pos (Classical.byContradiction (fun z => by have := (isR_n wA x).mpr z; rw [bI_0 c] at this; cases this))] at hR
    refine x_iconst (v := (-1 : Int32)) hO dX4_parts_16 rfl ?_
    refine x_iret hO hR dX4_parts_17 rfl ?_
    exact ⟨rfl, rfl⟩
  · rw [if_neg ((isR_n wA x).mp (bI_1 c))] at hR
    refine x_aload_n hO dX4_parts_8 rfl rfl ?_
    refine x_iload_n hO dX4_parts_9 rfl rfl ?_
    refine x_callV1 hO (m_partsOf U M x) dX4_parts_10 lkX4_174 fX4_partsOf vX4_partsOf (by decide) rfl rfl rfl rfl rfl (by decide) (Nat.le_of_ble_eq_true rfl) ?_
    rw [h.rows]
    refine x_goto (tgt := 17) hO dX4_parts_13 (by decide) ?_
    refine x_iret hO hR dX4_parts_17 rfl ?_
    exact ⟨rfl, rfl⟩
theorem m_ofRule (U : xP) (M : xM) {s : aO} (h : RM M s) {B : Nat} (w : WfO s B) (x : Int32) {k : Nat} (hk : 4 ≤ k) (hk2 : k ≤ 6) : xMetI U mX4_ofRule [.inr 9, .inl x, .inl (nI k)] M (quC M (q_of s.1.1 k x)) := by
  refine xMetI.of (ty := .int) (L := [some (.inr 9), some (.inl x), some (.inl (nI k))]) fX4_ofRule rfl rfl (Nat.le_of_ble_eq_true rfl) (fun G hN hO hR => ?_)
  have hN : G.2.2.2.2.2.2.2.2.2.2.1 = 3 := hN
  have hO : xOK U G RX4 cX4_ofRule 3 := hO
  obtain ⟨⟨a0, l0, -, wA⟩, -, -⟩ := w
  unfold q_of at hR
  rw [← h.rows] at hR wA
  refine x_aload_n hO dX4_ofRule_0 rfl rfl ?_
  refine x_iload_n hO dX4_ofRule_1 rfl rfl ?_
  refine x_callV1 hO (m_isRule U M (a := a0) wA x) dX4_ofRule_2 lkX4_112 fX4_isRule vX4_isRule (by decide) rfl rfl rfl rfl rfl (by decide) (Nat.le_of_ble_eq_true rfl) ?_
  refine x_if_eq (tgt := 22) hO dX4_ofRule_5 (by decide) (fun c => ?_) (fun c => ?_)
  · rw [if_neg (of_decide_eq_false (bI_0 c))] at hR
    refine x_iconst (v := (-1 : Int32)) hO dX4_ofRule_22 rfl ?_
    refine x_iret hO hR dX4_ofRule_23 rfl ?_
    exact ⟨rfl, rfl⟩
  · have q : nF (pPart (nA M) x 0) 0 32 < 32 := of_decide_eq_true (bI_1 c)
    rw [if_pos q] at hR
    obtain ⟨p1, p2, p3⟩ := pPart_oc q
    refine x_aload_n hO dX4_ofRule_8 rfl rfl ?_
    refine x_aload_n hO dX4_ofRule_9 rfl rfl ?_
    refine x_iload_n hO dX4_ofRule_10 rfl rfl ?_
    refine x_iconst (v := nI 0) hO dX4_ofRule_11 rfl ?_
    refine x_callV1 hO (m_slotWith U M wA x (nI 0)) dX4_ofRule_12 lkX4_109 fX4_slotWith vX4_slotWith (by decide) rfl rfl rfl rfl rfl (by decide) (Nat.le_of_ble_eq_true rfl) ?_
    change XW U G _ _ [.inl (nI (nF (pPart (nA M) x 0) 0 32)), .inr 9] M
    generalize nF (pPart (nA M) x 0) 0 32 = f at *
    have e : M 10 (7 * f + k) = nA M f k := by
      rcases Nat.lt_or_ge k 6 with z | z
      · have := mA_in (M := M) (c := 10) (o := 0) p1 (by omega) z
        rw [Nat.zero_add] at this
        exact this
      · obtain rfl : k = 6 := by omega
        have := mA_hit (M := M) (c := 10) (o := 0) p1 p3
        rw [Nat.zero_add] at this
        exact this
    refine x_iload_n hO dX4_ofRule_15 rfl rfl ?_
    refine x_callV1 hO (m_at0 U M (s := f) (w := k) q (by omega)) dX4_ofRule_16 lkX4_55 fX4_at vX4_at (by decide) rfl rfl rfl rfl rfl (by decide) (Nat.le_of_ble_eq_true rfl) ?_
    rw [e]
    refine x_goto (tgt := 23) hO dX4_ofRule_19 (by decide) ?_
    refine x_iret hO hR dX4_ofRule_23 rfl ?_
    exact ⟨rfl, rfl⟩
theorem km_rank (U : xP) (M : xM) {s : aO} (h : RM M s) {B : Nat} (w : WfO s B) (x : Int32) : xMetI U mX4_rank [.inr 9, .inl x] M (quC M (q_of s.1.1 4 x)) := by
  refine xMetI.of (ty := .int) (L := [some (.inr 9), some (.inl x)]) fX4_rank rfl rfl (Nat.le_of_ble_eq_true rfl) (fun G hN hO hR => ?_)
  have hN : G.2.2.2.2.2.2.2.2.2.2.1 = 2 := hN
  have hO : xOK U G RX4 cX4_rank 4 := hO
  refine x_aload_n hO dX4_rank_0 rfl rfl ?_
  refine x_iload_n hO dX4_rank_1 rfl rfl ?_
  refine x_iconst (v := nI 4) hO dX4_rank_2 rfl ?_
  refine x_callV1 hO (m_ofRule U M h w x (k := 4) (by decide) (by decide)) dX4_rank_3 lkX4_177 fX4_ofRule vX4_ofRule (by decide) rfl rfl rfl rfl rfl (by decide) (Nat.le_of_ble_eq_true rfl) ?_
  refine x_iret hO hR dX4_rank_6 rfl ?_
  exact ⟨rfl, rfl⟩
theorem km_action (U : xP) (M : xM) {s : aO} (h : RM M s) {B : Nat} (w : WfO s B) (x : Int32) : xMetI U mX4_action [.inr 9, .inl x] M (quC M (q_of s.1.1 5 x)) := by
  refine xMetI.of (ty := .int) (L := [some (.inr 9), some (.inl x)]) fX4_action rfl rfl (Nat.le_of_ble_eq_true rfl) (fun G hN hO hR => ?_)
  have hN : G.2.2.2.2.2.2.2.2.2.2.1 = 2 := hN
  have hO : xOK U G RX4 cX4_action 4 := hO
  refine x_aload_n hO dX4_action_0 rfl rfl ?_
  refine x_iload_n hO dX4_action_1 rfl rfl ?_
  refine x_iconst (v := nI 5) hO dX4_action_2 rfl ?_
  refine x_callV1 hO (m_ofRule U M h w x (k := 5) (by decide) (by decide)) dX4_action_3 lkX4_177 fX4_ofRule vX4_ofRule (by decide) rfl rfl rfl rfl rfl (by decide) (Nat.le_of_ble_eq_true rfl) ?_
  refine x_iret hO hR dX4_action_6 rfl ?_
  exact ⟨rfl, rfl⟩
theorem km_hits (U : xP) (M : xM) {s : aO} (h : RM M s) {B : Nat} (w : WfO s B) (x : Int32) : xMetI U mX4_hits [.inr 9, .inl x] M (quC M (q_of s.1.1 6 x)) := by
  refine xMetI.of (ty := .int) (L := [some (.inr 9), some (.inl x)]) fX4_hits rfl rfl (Nat.le_of_ble_eq_true rfl) (fun G hN hO hR => ?_)
  have hN : G.2.2.2.2.2.2.2.2.2.2.1 = 2 := hN
  have hO : xOK U G RX4 cX4_hits 4 := hO
  refine x_aload_n hO dX4_hits_0 rfl rfl ?_
  refine x_iload_n hO dX4_hits_1 rfl rfl ?_
  refine x_bipush (v := nI 6) hO dX4_hits_2 rfl ?_
  refine x_callV1 hO (m_ofRule U M h w x (k := 6) (by decide) (by decide)) dX4_hits_4 lkX4_177 fX4_ofRule vX4_ofRule (by decide) rfl rfl rfl rfl rfl (by decide) (Nat.le_of_ble_eq_true rfl) ?_
  refine x_iret hO hR dX4_hits_7 rfl ?_
  exact ⟨rfl, rfl⟩
