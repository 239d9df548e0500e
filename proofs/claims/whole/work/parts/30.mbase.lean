/-! ===== the reference: its rows, its small methods ===== -/
def moc (M : xM) (c o s : Nat) : Bool := decide (s < 32) && !(M c (o + 7 * s) == 0)
def mA (M : xM) (c o : Nat) : aR := fun s w => if moc M c o s then (if w = 0 then M c (o + 7 * s) - 1 else if w < 6 then M c (o + 7 * s + w) else if w = 6 ∧ M c (o + 7 * s + 1) = 0 then M c (o + 7 * s + 6) else 0) else eR w
theorem i32_sub1 (x : Int32) : x - 1 = -1 ↔ x = 0 := by
  constructor
  · intro h
    have : x - 1 + 1 = -1 + 1 := by rw [h]
    simpa using this
  · rintro rfl
    decide
theorem i32_s1 (x y : Int32) : x - 1 = y ↔ x = y + 1 := by
  constructor
  · rintro rfl
    simp
  · rintro rfl
    simp
theorem mA_oc (M : xM) (c o s : Nat) : aoc (mA M c o) s = moc M c o s := by
  unfold aoc mA
  cases h : moc M c o s with
  | false => rfl
  | true =>
    have h2 := h
    simp only [moc, Bool.and_eq_true] at h2
    have h3 : ¬ M c (o + 7 * s) = 0 := by simpa using h2.2
    have h4 : ¬ M c (o + 7 * s) - 1 = -1 := fun z => h3 ((i32_sub1 _).mp z)
    simp [h4]
theorem mA_0 {M : xM} {c o s : Nat} (h : aoc (mA M c o) s = true) : M c (o + 7 * s) - 1 = mA M c o s 0 := by
  rw [mA_oc] at h
  simp [mA, h]
theorem mA_in {M : xM} {c o s : Nat} (h : aoc (mA M c o) s = true) {w : Nat} (h0 : 0 < w) (hw : w < 6) : M c (o + 7 * s + w) = mA M c o s w := by
  rw [mA_oc] at h
  have : ¬ w = 0 := by omega
  simp [mA, h, hw, this]
theorem mA_hit {M : xM} {c o s : Nat} (h : aoc (mA M c o) s = true) (h1 : mA M c o s 1 = 0) : M c (o + 7 * s + 6) = mA M c o s 6 := by
  have h2 : M c (o + 7 * s + 1) = 0 := by rw [mA_in h (by decide) (by decide)]; exact h1
  rw [mA_oc] at h
  simp [mA, h, h2]
theorem mA_free {M : xM} {c o s : Nat} (h : M c (o + 7 * s) = 0) : mA M c o s = eR := by
  funext w
  unfold mA moc
  rw [h]
  simp
theorem mA_ge {M : xM} {c o s : Nat} (h : 32 ≤ s) : mA M c o s = eR := by
  funext w
  unfold mA moc
  rw [decide_eq_false (by omega)]
  simp
theorem mA_none {M : xM} {c o s : Nat} (h : aoc (mA M c o) s = false) : mA M c o s = eR := by
  rw [mA_oc] at h
  funext w
  unfold mA
  rw [h]
  rfl
theorem mA_lt {M : xM} {c o s : Nat} (h : aoc (mA M c o) s = true) : s < 32 := by
  rw [mA_oc] at h
  simp only [moc, Bool.and_eq_true, decide_eq_true_eq] at h
  exact h.1
theorem mA_row {M M' : xM} {c c' o o' s t : Nat} (hs : s < 32) (ht : t < 32) (h : ∀ w, w < 7 → M' c' (o' + 7 * s + w) = M c (o + 7 * t + w)) : mA M' c' o' s = mA M c o t := by
  have h0 : M' c' (o' + 7 * s) = M c (o + 7 * t) := h 0 (by decide)
  have h1 : M' c' (o' + 7 * s + 1) = M c (o + 7 * t + 1) := h 1 (by decide)
  have h6 : M' c' (o' + 7 * s + 6) = M c (o + 7 * t + 6) := h 6 (by decide)
  funext w
  unfold mA moc
  rw [h0, h1, h6, decide_eq_true hs, decide_eq_true ht]
  split
  · split
    · rfl
    · split
      · rename_i hw
        exact h w (by omega)
      · rfl
  · rfl
theorem mA_ext {M : xM} {c o : Nat} {A : aR} (h : ∀ s, s < 32 → mA M c o s = A s) (h2 : ∀ s, 32 ≤ s → A s = eR) : mA M c o = A := by
  funext s
  rcases Nat.lt_or_ge s 32 with q | q
  · exact h s q
  · rw [mA_ge q, h2 s q]
/-- the reference's memory now: its rows, its numbers -/
def nA (M : xM) : aR := mA M 10 0
theorem m_in (U : xP) (M : xM) (x : Int32) {n : Nat} (hn : n < 2 ^ 30) : xMetI U mX4_in [.inl x, .inl (nI 0), .inl (nI n)] M (fun r M' => r = bI (ixB x (n + 1)) ∧ M' = M) := by
  refine xMetI.of (ty := .boolean) (L := [some (.inl x), some (.inl (nI 0)), some (.inl (nI n))]) fX4_in rfl rfl (Nat.le_of_ble_eq_true rfl) (fun G hN hO hR => ?_)
  have hN : G.2.2.2.2.2.2.2.2.2.2.1 = 3 := hN
  have hO : xOK U G RX4 cX4_in 0 := hO
  refine x_iload_n hO dX4_in_0 rfl rfl ?_
  refine x_iload_n hO dX4_in_1 rfl rfl ?_
  refine x_icmp_lt (tgt := 14) hO dX4_in_2 (by decide) (fun c => ?_) (fun c => ?_)
  · refine x_iconst (v := nI 0) hO dX4_in_14 rfl ?_
    refine x_iret hO hR dX4_in_15 rfl ?_
    exact ⟨bI_f (ixB_lo c), rfl⟩
  · refine x_iload_n hO dX4_in_5 rfl rfl ?_
    refine x_iload_n hO dX4_in_6 rfl rfl ?_
    refine x_icmp_gt (tgt := 14) hO dX4_in_7 (by decide) (fun c2 => ?_) (fun c2 => ?_)
    · refine x_iconst (v := nI 0) hO dX4_in_14 rfl ?_
      refine x_iret hO hR dX4_in_15 rfl ?_
      refine ⟨bI_f (ixB_hi ?_), rfl⟩
      obtain ⟨k, hk, rfl⟩ := nI_of (x := x) c
      have := (nI_ltI (by omega) hk).mp c2
      exact nI_le (by omega) (by omega)
    · refine x_iconst (v := nI 1) hO dX4_in_10 rfl ?_
      refine x_goto (tgt := 15) hO dX4_in_11 (by decide) ?_
      refine x_iret hO hR dX4_in_15 rfl ?_
      refine ⟨bI_t (ixB_in c ?_), rfl⟩
      obtain ⟨k, hk, rfl⟩ := nI_of (x := x) c
      intro z
      have := (nI_leI (by omega) hk).mp z
      exact c2 ((nI_ltI (by omega) hk).mpr (by omega))
/-- between two characters -/
theorem m_in2 (U : xP) (M : xM) (x y z : Int32) : xMetI U mX4_in [.inl x, .inl y, .inl z] M (fun r M' => r = bI (decide (y ≤ x) && decide (x ≤ z)) ∧ M' = M) := by
  refine xMetI.of (ty := .boolean) (L := [some (.inl x), some (.inl y), some (.inl z)]) fX4_in rfl rfl (Nat.le_of_ble_eq_true rfl) (fun G hN hO hR => ?_)
  have hN : G.2.2.2.2.2.2.2.2.2.2.1 = 3 := hN
  have hO : xOK U G RX4 cX4_in 0 := hO
  refine x_iload_n hO dX4_in_0 rfl rfl ?_
  refine x_iload_n hO dX4_in_1 rfl rfl ?_
  refine x_icmp_lt (tgt := 14) hO dX4_in_2 (by decide) (fun c => ?_) (fun c => ?_)
  · refine x_iconst (v := nI 0) hO dX4_in_14 rfl ?_
    refine x_iret hO hR dX4_in_15 rfl ?_
    exact ⟨bI_f (by simp [Int32.not_le.mpr c]), rfl⟩
  · refine x_iload_n hO dX4_in_5 rfl rfl ?_
    refine x_iload_n hO dX4_in_6 rfl rfl ?_
    refine x_icmp_gt (tgt := 14) hO dX4_in_7 (by decide) (fun c2 => ?_) (fun c2 => ?_)
    · refine x_iconst (v := nI 0) hO dX4_in_14 rfl ?_
      refine x_iret hO hR dX4_in_15 rfl ?_
      exact ⟨bI_f (by simp [Int32.not_le.mpr c2]), rfl⟩
    · refine x_iconst (v := nI 1) hO dX4_in_10 rfl ?_
      refine x_goto (tgt := 15) hO dX4_in_11 (by decide) ?_
      refine x_iret hO hR dX4_in_15 rfl ?_
      exact ⟨bI_t (by simp [Int32.not_lt.mp c, Int32.not_lt.mp c2]), rfl⟩
theorem m_at0 (U : xP) (M : xM) {s w : Nat} (hs : s < 32) (hw : w < 7) : xMetI U mX4_at [.inr 9, .inl (nI s), .inl (nI w)] M (fun r M' => r = M 10 (7 * s + w) ∧ M' = M) := by
  refine xMetI.of (ty := .int) (L := [some (.inr 9), some (.inl (nI s)), some (.inl (nI w))]) fX4_at rfl rfl (Nat.le_of_ble_eq_true rfl) (fun G hN hO hR => ?_)
  have hN : G.2.2.2.2.2.2.2.2.2.2.1 = 3 := hN
  have hO : xOK U G RX4 cX4_at 0 := hO
  refine x_aload_n hO dX4_at_0 rfl rfl ?_
  refine x_getR (T := TX4) (j := 0) hO dX4_at_1 flX4_7 (by decide) rfl rfl (by decide) rfl rfl ?_
  refine x_bipush (v := nI 7) hO dX4_at_4 rfl ?_
  refine x_iload_n hO dX4_at_6 rfl rfl ?_
  refine x_imul hO dX4_at_7 ?_
  rw [pk_mul]
  refine x_iload_n hO dX4_at_8 rfl rfl ?_
  refine x_iadd hO dX4_at_9 ?_
  rw [nI_add]
  have h : 7 * s + w < 229 := by omega
  refine x_iald hO (by decide) rfl (by decide) (rfl) (h) dX4_at_10 ?_
  refine x_iret hO hR dX4_at_11 rfl ?_
  exact ⟨rfl, rfl⟩
theorem m_at (U : xP) (M : xM) {s w : Nat} (h : aoc (nA M) s = true) (h0 : 0 < w) (hw : w < 6) : xMetI U mX4_at [.inr 9, .inl (nI s), .inl (nI w)] M (fun r M' => r = nA M s w ∧ M' = M) := by
  have := m_at0 U M (s := s) (w := w) (mA_lt h) (by omega)
  have e : M 10 (7 * s + w) = nA M s w := by have := mA_in (M := M) h h0 hw; rwa [Nat.zero_add] at this
  rw [e] at this
  exact this
theorem m_at_r (U : xP) (M : xM) {s : Nat} (hs : s < 32) : xMetI U mX4_at [.inr 9, .inl (nI s), .inl (nI 0)] M (fun r M' => r = M 10 (7 * s) ∧ M' = M) := m_at0 U M (w := 0) hs (by decide)
theorem m_isFree (U : xP) (M : xM) {s : Nat} (hs : s < 32) : xMetI U mX4_isFree [.inr 9, .inl (nI s)] M (fun r M' => r = bI (!aoc (nA M) s) ∧ M' = M) := by
  refine xMetI.of (ty := .boolean) (L := [some (.inr 9), some (.inl (nI s))]) fX4_isFree rfl rfl (Nat.le_of_ble_eq_true rfl) (fun G hN hO hR => ?_)
  have hN : G.2.2.2.2.2.2.2.2.2.2.1 = 2 := hN
  have hO : xOK U G RX4 cX4_isFree 0 := hO
  refine x_aload_n hO dX4_isFree_0 rfl rfl ?_
  refine x_getR (T := TX4) (j := 0) hO dX4_isFree_1 flX4_7 (by decide) rfl rfl (by decide) rfl rfl ?_
  refine x_bipush (v := nI 7) hO dX4_isFree_4 rfl ?_
  refine x_iload_n hO dX4_isFree_6 rfl rfl ?_
  refine x_imul hO dX4_isFree_7 ?_
  rw [pk_mul]
  refine x_iconst (v := nI 0) hO dX4_isFree_8 rfl ?_
  refine x_iadd hO dX4_isFree_9 ?_
  rw [nI_add]
  have h : 7 * s + 0 < 229 := by omega
  refine x_iald hO (by decide) rfl (by decide) (rfl) (h) dX4_isFree_10 ?_
  have e : aoc (nA M) s = !(M 10 (7 * s + 0) == 0) := by
    unfold nA
    rw [mA_oc]
    simp [moc, hs]
  refine x_if_ne (tgt := 18) hO dX4_isFree_11 (by decide) (fun c => ?_) (fun c => ?_)
  · refine x_iconst (v := nI 0) hO dX4_isFree_18 rfl ?_
    refine x_iret hO hR dX4_isFree_19 rfl ?_
    exact ⟨bI_f (by rw [e]; simpa using c), rfl⟩
  · refine x_iconst (v := nI 1) hO dX4_isFree_14 rfl ?_
    refine x_goto (tgt := 19) hO dX4_isFree_15 (by decide) ?_
    refine x_iret hO hR dX4_isFree_19 rfl ?_
    exact ⟨bI_t (by rw [e]; simpa using c), rfl⟩
theorem m_isSlot (U : xP) (M : xM) (x : Int32) : xMetI U mX4_isSlot [.inl x] M (fun r M' => r = bI (ixB x 32) ∧ M' = M) := by
  refine xMetI.of (ty := .boolean) (L := [some (.inl x)]) fX4_isSlot rfl rfl (Nat.le_of_ble_eq_true rfl) (fun G hN hO hR => ?_)
  have hN : G.2.2.2.2.2.2.2.2.2.2.1 = 1 := hN
  have hO : xOK U G RX4 cX4_isSlot 1 := hO
  refine x_iload_n hO dX4_isSlot_0 rfl rfl ?_
  refine x_iconst (v := nI 0) hO dX4_isSlot_1 rfl ?_
  refine x_bipush (v := nI 31) hO dX4_isSlot_2 rfl ?_
  refine x_callS1 hO (m_in U M x (n := 31) (by decide)) dX4_isSlot_4 lkX4_28 fX4_in sX4_in rfl rfl (by decide) (Nat.le_of_ble_eq_true rfl) ?_
  refine x_iret hO hR dX4_isSlot_7 (bI_nar _) ?_
  exact ⟨rfl, rfl⟩
theorem m_isByte (U : xP) (M : xM) (x : Int32) : xMetI U mX4_isByte [.inl x] M (fun r M' => r = bI (ixB x 256) ∧ M' = M) := by
  refine xMetI.of (ty := .boolean) (L := [some (.inl x)]) fX4_isByte rfl rfl (Nat.le_of_ble_eq_true rfl) (fun G hN hO hR => ?_)
  have hN : G.2.2.2.2.2.2.2.2.2.2.1 = 1 := hN
  have hO : xOK U G RX4 cX4_isByte 1 := hO
  refine x_iload_n hO dX4_isByte_0 rfl rfl ?_
  refine x_iconst (v := nI 0) hO dX4_isByte_1 rfl ?_
  refine x_sipush (v := nI 255) hO dX4_isByte_2 rfl ?_
  refine x_callS1 hO (m_in U M x (n := 255) (by decide)) dX4_isByte_5 lkX4_28 fX4_in sX4_in rfl rfl (by decide) (Nat.le_of_ble_eq_true rfl) ?_
  refine x_iret hO hR dX4_isByte_8 (bI_nar _) ?_
  exact ⟨rfl, rfl⟩
theorem m_isRA (U : xP) (M : xM) (x y : Int32) : xMetI U mX4_isRankAndAction [.inl x, .inl y] M (fun r M' => r = bI (ixB x 100 && ixB y 10) ∧ M' = M) := by
  refine xMetI.of (ty := .boolean) (L := [some (.inl x), some (.inl y)]) fX4_isRankAndAction rfl rfl (Nat.le_of_ble_eq_true rfl) (fun G hN hO hR => ?_)
  have hN : G.2.2.2.2.2.2.2.2.2.2.1 = 2 := hN
  have hO : xOK U G RX4 cX4_isRankAndAction 1 := hO
  refine x_iload_n hO dX4_isRankAndAction_0 rfl rfl ?_
  refine x_iconst (v := nI 0) hO dX4_isRankAndAction_1 rfl ?_
  refine x_bipush (v := nI 99) hO dX4_isRankAndAction_2 rfl ?_
  refine x_callS1 hO (m_in U M x (n := 99) (by decide)) dX4_isRankAndAction_4 lkX4_28 fX4_in sX4_in rfl rfl (by decide) (Nat.le_of_ble_eq_true rfl) ?_
  refine x_if_eq (tgt := 24) hO dX4_isRankAndAction_7 (by decide) (fun c => ?_) (fun c => ?_)
  · refine x_iconst (v := nI 0) hO dX4_isRankAndAction_24 rfl ?_
    refine x_iret hO hR dX4_isRankAndAction_25 rfl ?_
    exact ⟨bI_f (by simp [bI_0 c]), rfl⟩
  · refine x_iload_n hO dX4_isRankAndAction_10 rfl rfl ?_
    refine x_iconst (v := nI 0) hO dX4_isRankAndAction_11 rfl ?_
    refine x_bipush (v := nI 9) hO dX4_isRankAndAction_12 rfl ?_
    refine x_callS1 hO (m_in U M y (n := 9) (by decide)) dX4_isRankAndAction_14 lkX4_28 fX4_in sX4_in rfl rfl (by decide) (Nat.le_of_ble_eq_true rfl) ?_
    refine x_if_eq (tgt := 24) hO dX4_isRankAndAction_17 (by decide) (fun c2 => ?_) (fun c2 => ?_)
    · refine x_iconst (v := nI 0) hO dX4_isRankAndAction_24 rfl ?_
      refine x_iret hO hR dX4_isRankAndAction_25 rfl ?_
      exact ⟨bI_f (by simp [bI_0 c2]), rfl⟩
    · refine x_iconst (v := nI 1) hO dX4_isRankAndAction_20 rfl ?_
      refine x_goto (tgt := 25) hO dX4_isRankAndAction_21 (by decide) ?_
      refine x_iret hO hR dX4_isRankAndAction_25 rfl ?_
      exact ⟨bI_t (by simp [bI_1 c, bI_1 c2]), rfl⟩
theorem m_isRange (U : xP) (M : xM) (x y : Int32) : xMetI U mX4_isRange [.inl x, .inl y] M (fun r M' => r = bI (rgB x y) ∧ M' = M) := by
  refine xMetI.of (ty := .boolean) (L := [some (.inl x), some (.inl y)]) fX4_isRange rfl rfl (Nat.le_of_ble_eq_true rfl) (fun G hN hO hR => ?_)
  have hN : G.2.2.2.2.2.2.2.2.2.2.1 = 2 := hN
  have hO : xOK U G RX4 cX4_isRange 2 := hO
  refine x_iload_n hO dX4_isRange_0 rfl rfl ?_
  refine x_callS1 hO (m_isByte U M x) dX4_isRange_1 lkX4_79 fX4_isByte sX4_isByte rfl rfl (by decide) (Nat.le_of_ble_eq_true rfl) ?_
  refine x_if_eq (tgt := 23) hO dX4_isRange_4 (by decide) (fun c => ?_) (fun c => ?_)
  · refine x_iconst (v := nI 0) hO dX4_isRange_23 rfl ?_
    refine x_iret hO hR dX4_isRange_24 rfl ?_
    exact ⟨bI_f (by simp [rgB, bI_0 c]), rfl⟩
  · refine x_iload_n hO dX4_isRange_7 rfl rfl ?_
    refine x_callS1 hO (m_isByte U M y) dX4_isRange_8 lkX4_79 fX4_isByte sX4_isByte rfl rfl (by decide) (Nat.le_of_ble_eq_true rfl) ?_
    refine x_if_eq (tgt := 23) hO dX4_isRange_11 (by decide) (fun c2 => ?_) (fun c2 => ?_)
    · refine x_iconst (v := nI 0) hO dX4_isRange_23 rfl ?_
      refine x_iret hO hR dX4_isRange_24 rfl ?_
      exact ⟨bI_f (by simp [rgB, bI_0 c2]), rfl⟩
    · refine x_iload_n hO dX4_isRange_14 rfl rfl ?_
      refine x_iload_n hO dX4_isRange_15 rfl rfl ?_
      refine x_icmp_gt (tgt := 23) hO dX4_isRange_16 (by decide) (fun c3 => ?_) (fun c3 => ?_)
      · refine x_iconst (v := nI 0) hO dX4_isRange_23 rfl ?_
        refine x_iret hO hR dX4_isRange_24 rfl ?_
        exact ⟨bI_f (by simp [rgB, Int32.not_le.mpr c3]), rfl⟩
      · refine x_iconst (v := nI 1) hO dX4_isRange_19 rfl ?_
        refine x_goto (tgt := 24) hO dX4_isRange_20 (by decide) ?_
        refine x_iret hO hR dX4_isRange_24 rfl ?_
        exact ⟨bI_t (by simp [rgB, bI_1 c, bI_1 c2, Int32.not_lt.mp c3]), rfl⟩
theorem m_entries (U : xP) (M : xM) : xMetI U mX4_entries [.inr 9] M (fun r M' => r = nI (aCnt (nA M)) ∧ M' = M) := by
  refine xMetI.of (ty := .int) (L := [some (.inr 9), none, none]) fX4_entries rfl rfl (Nat.le_of_ble_eq_true rfl) (fun G hN hO hR => ?_)
  have hN : G.2.2.2.2.2.2.2.2.2.2.1 = 3 := hN
  have hO : xOK U G RX4 cX4_entries 1 := hO
  refine x_iconst (v := nI 0) hO dX4_entries_0 rfl ?_
  refine x_istore_n (n := 3) hO dX4_entries_1 rfl rfl (by decide) hN ?_
  refine x_iconst (v := nI 0) hO dX4_entries_2 rfl ?_
  refine x_istore_n (n := 3) hO dX4_entries_3 rfl rfl (by decide) hN ?_
  refine upd_ind (P := fun i _ => XW U G 4 [some (.inr 9), some (.inl (nI (nC (aoc (nA M)) i))), some (.inl (nI i))] [] M) 32 ?_ ?_ 32 0 rfl
  · refine x_iload_n hO dX4_entries_4 rfl rfl ?_
    refine x_bipush (v := nI 32) hO dX4_entries_5 rfl ?_
    refine x_icmp_ge (tgt := 32) hO dX4_entries_7 (by decide) (fun c => ?_) (fun c => ?_)
    · refine x_iload_n hO dX4_entries_32 rfl rfl ?_
      refine x_iret hO hR dX4_entries_33 rfl ?_
      exact ⟨rfl, rfl⟩
    · exact absurd (Int32.le_refl _) c
  · intro i d hd ih
    have hi : i < 32 := by omega
    refine x_iload_n hO dX4_entries_4 rfl rfl ?_
    refine x_bipush (v := nI 32) hO dX4_entries_5 rfl ?_
    refine x_icmp_ge (tgt := 32) hO dX4_entries_7 (by decide) (fun c => ?_) (fun c => ?_)
    · exact absurd c (nI_ge hi (by decide))
    · refine x_iload_n hO dX4_entries_10 rfl rfl ?_
      refine x_aload_n hO dX4_entries_11 rfl rfl ?_
      refine x_iload_n hO dX4_entries_12 rfl rfl ?_
      refine x_callV1 hO (m_isFree U M hi) dX4_entries_13 lkX4_51 fX4_isFree vX4_isFree (by decide) rfl rfl rfl rfl rfl (by decide) (Nat.le_of_ble_eq_true rfl) ?_
      refine x_if_eq (tgt := 23) hO dX4_entries_16 (by decide) (fun c2 => ?_) (fun c2 => ?_)
      · have e : aoc (nA M) i = true := by simpa using bI_0 c2
        rw [nC_t e] at ih
        refine x_iconst (v := nI 1) hO dX4_entries_23 rfl ?_
        refine x_iadd hO dX4_entries_24 ?_
        rw [nI_add]
        refine x_istore_n (n := 3) hO dX4_entries_25 rfl rfl (by decide) hN ?_
        refine x_iinc hO dX4_entries_26 rfl (by first | exact xinc_n _ | rfl) rfl hN ?_
        refine x_goto (tgt := 4) hO dX4_entries_29 (by decide) ?_
        exact ih
      · have e : aoc (nA M) i = false := by simpa using bI_1 c2
        rw [nC_f e] at ih
        refine x_iconst (v := nI 0) hO dX4_entries_19 rfl ?_
        refine x_goto (tgt := 24) hO dX4_entries_20 (by decide) ?_
        refine x_iadd hO dX4_entries_24 ?_
        rw [nI_add]
        refine x_istore_n (n := 3) hO dX4_entries_25 rfl rfl (by decide) hN ?_
        refine x_iinc hO dX4_entries_26 rfl (by first | exact xinc_n _ | rfl) rfl hN ?_
        refine x_goto (tgt := 4) hO dX4_entries_29 (by decide) ?_
        exact ih
theorem m_freeSlots (U : xP) (M : xM) : xMetI U mX4_freeSlots [.inr 9] M (fun r M' => r = nI (32 - aCnt (nA M)) ∧ M' = M) := by
  refine xMetI.of (ty := .int) (L := [some (.inr 9)]) fX4_freeSlots rfl rfl (Nat.le_of_ble_eq_true rfl) (fun G hN hO hR => ?_)
  have hN : G.2.2.2.2.2.2.2.2.2.2.1 = 1 := hN
  have hO : xOK U G RX4 cX4_freeSlots 2 := hO
  refine x_bipush (v := nI 32) hO dX4_freeSlots_0 rfl ?_
  refine x_aload_n hO dX4_freeSlots_2 rfl rfl ?_
  refine x_callV1 hO (m_entries U M) dX4_freeSlots_3 lkX4_44 fX4_entries vX4_entries (by decide) rfl rfl rfl rfl rfl (by decide) (Nat.le_of_ble_eq_true rfl) ?_
  refine x_isub hO dX4_freeSlots_6 ?_
  rw [pk_sub (aCnt_le _)]
  refine x_iret hO hR dX4_freeSlots_7 rfl ?_
  exact ⟨rfl, rfl⟩
theorem m_lastUpTo (U : xP) (M : xM) (x : Int32) : xMetI U mX4_lastUpTo [.inr 9, .inl x] M (fun r M' => r = xm (aP (nA M) x) ∧ M' = M) := by
  refine xMetI.of (ty := .int) (L := [some (.inr 9), some (.inl x), none, none]) fX4_lastUpTo rfl rfl (Nat.le_of_ble_eq_true rfl) (fun G hN hO hR => ?_)
  have hN : G.2.2.2.2.2.2.2.2.2.2.1 = 4 := hN
  have hO : xOK U G RX4 cX4_lastUpTo 1 := hO
  refine x_iconst (v := (-1 : Int32)) hO dX4_lastUpTo_0 rfl ?_
  refine x_istore_n (n := 4) hO dX4_lastUpTo_1 rfl rfl (by decide) hN ?_
  refine x_iconst (v := nI 0) hO dX4_lastUpTo_2 rfl ?_
  refine x_istore_n (n := 4) hO dX4_lastUpTo_3 rfl rfl (by decide) hN ?_
  refine upd_ind (P := fun i _ => XW U G 4 [some (.inr 9), some (.inl x), some (.inl (xm (nL (pUp (nA M) x) i))), some (.inl (nI i))] [] M) 32 ?_ ?_ 32 0 rfl
  · refine x_iload_n hO dX4_lastUpTo_4 rfl rfl ?_
    refine x_bipush (v := nI 32) hO dX4_lastUpTo_5 rfl ?_
    refine x_icmp_ge (tgt := 40) hO dX4_lastUpTo_7 (by decide) (fun c => ?_) (fun c => ?_)
    · refine x_iload_n hO dX4_lastUpTo_40 rfl rfl ?_
      refine x_iret hO hR dX4_lastUpTo_41 rfl ?_
      exact ⟨rfl, rfl⟩
    · exact absurd (Int32.le_refl _) c
  · intro i d hd ih
    have hi : i < 32 := by omega
    refine x_iload_n hO dX4_lastUpTo_4 rfl rfl ?_
    refine x_bipush (v := nI 32) hO dX4_lastUpTo_5 rfl ?_
    refine x_icmp_ge (tgt := 40) hO dX4_lastUpTo_7 (by decide) (fun c => ?_) (fun c => ?_)
    · exact absurd c (nI_ge hi (by decide))
    · refine x_aload_n hO dX4_lastUpTo_10 rfl rfl ?_
      refine x_iload_n hO dX4_lastUpTo_11 rfl rfl ?_
      refine x_callV1 hO (m_isFree U M hi) dX4_lastUpTo_12 lkX4_51 fX4_isFree vX4_isFree (by decide) rfl rfl rfl rfl rfl (by decide) (Nat.le_of_ble_eq_true rfl) ?_
      refine x_if_ne (tgt := 32) hO dX4_lastUpTo_15 (by decide) (fun c2 => ?_) (fun c2 => ?_)
      · have e : aoc (nA M) i = false := by simpa using bI_1 c2
        rw [nL_f (by simp [pUp, e])] at ih
        refine x_iload_n hO dX4_lastUpTo_32 rfl rfl ?_
        refine x_istore_n (n := 4) hO dX4_lastUpTo_33 rfl rfl (by decide) hN ?_
        refine x_iinc hO dX4_lastUpTo_34 rfl (by first | exact xinc_n _ | rfl) rfl hN ?_
        refine x_goto (tgt := 4) hO dX4_lastUpTo_37 (by decide) ?_
        exact ih
      · have e : aoc (nA M) i = true := by simpa using bI_0 c2
        refine x_aload_n hO dX4_lastUpTo_18 rfl rfl ?_
        refine x_iload_n hO dX4_lastUpTo_19 rfl rfl ?_
        refine x_iconst (v := nI 4) hO dX4_lastUpTo_20 rfl ?_
        refine x_callV1 hO (m_at U M e (w := 4) (by decide) (by decide)) dX4_lastUpTo_21 lkX4_55 fX4_at vX4_at (by decide) rfl rfl rfl rfl rfl (by decide) (Nat.le_of_ble_eq_true rfl) ?_
        refine x_iload_n hO dX4_lastUpTo_24 rfl rfl ?_
        refine x_icmp_gt (tgt := 32) hO dX4_lastUpTo_25 (by decide) (fun c3 => ?_) (fun c3 => ?_)
        · rw [nL_f (by simp [pUp, Int32.not_le.mpr c3])] at ih
          refine x_iload_n hO dX4_lastUpTo_32 rfl rfl ?_
          refine x_istore_n (n := 4) hO dX4_lastUpTo_33 rfl rfl (by decide) hN ?_
          refine x_iinc hO dX4_lastUpTo_34 rfl (by first | exact xinc_n _ | rfl) rfl hN ?_
          refine x_goto (tgt := 4) hO dX4_lastUpTo_37 (by decide) ?_
          exact ih
        · rw [nL_t (by simp [pUp, e, Int32.not_lt.mp c3])] at ih
          refine x_iload_n hO dX4_lastUpTo_28 rfl rfl ?_
          refine x_goto (tgt := 33) hO dX4_lastUpTo_29 (by decide) ?_
          refine x_istore_n (n := 4) hO dX4_lastUpTo_33 rfl rfl (by decide) hN ?_
          refine x_iinc hO dX4_lastUpTo_34 rfl (by first | exact xinc_n _ | rfl) rfl hN ?_
          refine x_goto (tgt := 4) hO dX4_lastUpTo_37 (by decide) ?_
          exact ih
theorem m_firstAbove (U : xP) (M : xM) (x : Int32) : xMetI U mX4_firstAbove [.inr 9, .inl x] M (fun r M' => r = nI (aB (nA M) x) ∧ M' = M) := by
  refine xMetI.of (ty := .int) (L := [some (.inr 9), some (.inl x), none, none]) fX4_firstAbove rfl rfl (Nat.le_of_ble_eq_true rfl) (fun G hN hO hR => ?_)
  have hN : G.2.2.2.2.2.2.2.2.2.2.1 = 4 := hN
  have hO : xOK U G RX4 cX4_firstAbove 1 := hO
  refine x_bipush (v := nI 32) hO dX4_firstAbove_0 rfl ?_
  refine x_istore_n (n := 4) hO dX4_firstAbove_2 rfl rfl (by decide) hN ?_
  refine x_bipush (v := nI 31) hO dX4_firstAbove_3 rfl ?_
  refine x_istore_n (n := 4) hO dX4_firstAbove_5 rfl rfl (by decide) hN ?_
  have loop : ∀ k d, k + d = 32 → XW U G 6 [some (.inr 9), some (.inl x), some (.inl (nI (nF (pBy (nA M) x) k d))), some (.inl (xm k))] [] M := by
    intro k
    induction k with
    | zero =>
      intro d hd
      obtain rfl : d = 32 := by omega
      refine x_iload_n hO dX4_firstAbove_6 rfl rfl ?_
      refine x_if_lt (tgt := 40) hO dX4_firstAbove_7 (by decide) (fun c => ?_) (fun c => ?_)
      · refine x_iload_n hO dX4_firstAbove_40 rfl rfl ?_
        refine x_iret hO hR dX4_firstAbove_41 rfl ?_
        exact ⟨rfl, rfl⟩
      · exact absurd (by decide) c
    | succ i ih =>
      intro d hd
      have hi : i < 32 := by omega
      have ih := ih (d + 1) (by omega)
      refine x_iload_n hO dX4_firstAbove_6 rfl rfl ?_
      refine x_if_lt (tgt := 40) hO dX4_firstAbove_7 (by decide) (fun c => ?_) (fun c => ?_)
      · exact absurd c (nI_pos (by omega))
      · refine x_aload_n hO dX4_firstAbove_10 rfl rfl ?_
        refine x_iload_n hO dX4_firstAbove_11 rfl rfl ?_
        refine x_callV1 hO (m_isFree U M hi) dX4_firstAbove_12 lkX4_51 fX4_isFree vX4_isFree (by decide) rfl rfl rfl rfl rfl (by decide) (Nat.le_of_ble_eq_true rfl) ?_
        refine x_if_ne (tgt := 32) hO dX4_firstAbove_15 (by decide) (fun c2 => ?_) (fun c2 => ?_)
        · have e : aoc (nA M) i = false := by simpa using bI_1 c2
          rw [nF_f (by simp [pBy, e])] at ih
          refine x_iload_n hO dX4_firstAbove_32 rfl rfl ?_
          refine x_istore_n (n := 4) hO dX4_firstAbove_33 rfl rfl (by decide) hN ?_
          refine x_iinc hO dX4_firstAbove_34 rfl (xm_dec i) rfl hN ?_
          refine x_goto (tgt := 6) hO dX4_firstAbove_37 (by decide) ?_
          exact ih
        · have e : aoc (nA M) i = true := by simpa using bI_0 c2
          refine x_aload_n hO dX4_firstAbove_18 rfl rfl ?_
          refine x_iload_n hO dX4_firstAbove_19 rfl rfl ?_
          refine x_iconst (v := nI 4) hO dX4_firstAbove_20 rfl ?_
          refine x_callV1 hO (m_at U M e (w := 4) (by decide) (by decide)) dX4_firstAbove_21 lkX4_55 fX4_at vX4_at (by decide) rfl rfl rfl rfl rfl (by decide) (Nat.le_of_ble_eq_true rfl) ?_
          refine x_iload_n hO dX4_firstAbove_24 rfl rfl ?_
          refine x_icmp_le (tgt := 32) hO dX4_firstAbove_25 (by decide) (fun c3 => ?_) (fun c3 => ?_)
          · rw [nF_f (by simp [pBy, Int32.not_lt.mpr c3])] at ih
            refine x_iload_n hO dX4_firstAbove_32 rfl rfl ?_
            refine x_istore_n (n := 4) hO dX4_firstAbove_33 rfl rfl (by decide) hN ?_
            refine x_iinc hO dX4_firstAbove_34 rfl (xm_dec i) rfl hN ?_
            refine x_goto (tgt := 6) hO dX4_firstAbove_37 (by decide) ?_
            exact ih
          · rw [nF_t (by simp [pBy, e, Int32.not_le.mp c3])] at ih
            refine x_iload_n hO dX4_firstAbove_28 rfl rfl ?_
            refine x_goto (tgt := 33) hO dX4_firstAbove_29 (by decide) ?_
            refine x_istore_n (n := 4) hO dX4_firstAbove_33 rfl rfl (by decide) hN ?_
            refine x_iinc hO dX4_firstAbove_34 rfl (xm_dec i) rfl hN ?_
            refine x_goto (tgt := 6) hO dX4_firstAbove_37 (by decide) ?_
            exact ih
  exact loop 32 0 rfl
theorem m_freeBehind (U : xP) (M : xM) {p : Nat} (hp : p ≤ 32) : xMetI U mX4_freeBehind [.inr 9, .inl (xm p)] M (fun r M' => r = nI (nF (pFr (nA M)) p (32 - p)) ∧ M' = M) := by
  refine xMetI.of (ty := .int) (L := [some (.inr 9), some (.inl (xm p)), none]) fX4_freeBehind rfl rfl (Nat.le_of_ble_eq_true rfl) (fun G hN hO hR => ?_)
  have hN : G.2.2.2.2.2.2.2.2.2.2.1 = 3 := hN
  have hO : xOK U G RX4 cX4_freeBehind 1 := hO
  generalize hg : nF (pFr (nA M)) p (32 - p) = g at hR
  refine x_iload_n hO dX4_freeBehind_0 rfl rfl ?_
  refine x_iconst (v := nI 1) hO dX4_freeBehind_1 rfl ?_
  refine x_iadd hO dX4_freeBehind_2 ?_
  rw [xm_inc]
  refine x_istore_n (n := 3) hO dX4_freeBehind_3 rfl rfl (by decide) hN ?_
  refine upd_ind (P := fun i d => nF (pFr (nA M)) i d = g → XW U G 4 [some (.inr 9), some (.inl (xm p)), some (.inl (nI i))] [] M) 32 ?_ ?_ (32 - p) p (by omega) hg
  · intro hg
    refine x_iload_n hO dX4_freeBehind_4 rfl rfl ?_
    refine x_bipush (v := nI 32) hO dX4_freeBehind_5 rfl ?_
    refine x_icmp_ge (tgt := 24) hO dX4_freeBehind_7 (by decide) (fun c => ?_) (fun c => ?_)
    · refine x_iload_n hO dX4_freeBehind_24 rfl rfl ?_
      refine x_iret hO hR dX4_freeBehind_25 rfl ?_
      exact ⟨by rw [← hg]; rfl, rfl⟩
    · exact absurd (Int32.le_refl _) c
  · intro i d hd ih hg
    have hi : i < 32 := by omega
    refine x_iload_n hO dX4_freeBehind_4 rfl rfl ?_
    refine x_bipush (v := nI 32) hO dX4_freeBehind_5 rfl ?_
    refine x_icmp_ge (tgt := 24) hO dX4_freeBehind_7 (by decide) (fun c => ?_) (fun c => ?_)
    · exact absurd c (nI_ge hi (by decide))
    · refine x_aload_n hO dX4_freeBehind_10 rfl rfl ?_
      refine x_iload_n hO dX4_freeBehind_11 rfl rfl ?_
      refine x_callV1 hO (m_isFree U M hi) dX4_freeBehind_12 lkX4_51 fX4_isFree vX4_isFree (by decide) rfl rfl rfl rfl rfl (by decide) (Nat.le_of_ble_eq_true rfl) ?_
      refine x_if_ne (tgt := 24) hO dX4_freeBehind_15 (by decide) (fun c2 => ?_) (fun c2 => ?_)
      · refine x_iload_n hO dX4_freeBehind_24 rfl rfl ?_
        refine x_iret hO hR dX4_freeBehind_25 rfl ?_
        exact ⟨by rw [← hg, nF_t (by simpa [pFr] using bI_1 c2)], rfl⟩
      · refine x_iinc hO dX4_freeBehind_18 rfl (by first | exact xinc_n _ | rfl) rfl hN ?_
        refine x_goto (tgt := 4) hO dX4_freeBehind_21 (by decide) ?_
        exact ih (by rw [← hg, nF_f (by simpa [pFr] using bI_0 c2)])
theorem m_freeAhead (U : xP) (M : xM) {b : Nat} (hb : b ≤ 32) : xMetI U mX4_freeAhead [.inr 9, .inl (nI b)] M (fun r M' => r = xm (nL (pFr (nA M)) b) ∧ M' = M) := by
  refine xMetI.of (ty := .int) (L := [some (.inr 9), some (.inl (nI b)), none]) fX4_freeAhead rfl rfl (Nat.le_of_ble_eq_true rfl) (fun G hN hO hR => ?_)
  have hN : G.2.2.2.2.2.2.2.2.2.2.1 = 3 := hN
  have hO : xOK U G RX4 cX4_freeAhead 1 := hO
  generalize hg : nL (pFr (nA M)) b = g at hR
  have e0 : nI b - nI 1 = xm b := by
    cases b with
    | zero => rfl
    | succ j => exact nI_sub1 j
  refine x_iload_n hO dX4_freeAhead_0 rfl rfl ?_
  refine x_iconst (v := nI 1) hO dX4_freeAhead_1 rfl ?_
  refine x_isub hO dX4_freeAhead_2 ?_
  rw [e0]
  refine x_istore_n (n := 3) hO dX4_freeAhead_3 rfl rfl (by decide) hN ?_
  have loop : ∀ i, i ≤ 32 → nL (pFr (nA M)) i = g → XW U G 4 [some (.inr 9), some (.inl (nI b)), some (.inl (xm i))] [] M := by
    intro i
    induction i with
    | zero =>
      intro _ hg
      refine x_iload_n hO dX4_freeAhead_4 rfl rfl ?_
      refine x_if_lt (tgt := 22) hO dX4_freeAhead_5 (by decide) (fun c => ?_) (fun c => ?_)
      · refine x_iload_n hO dX4_freeAhead_22 rfl rfl ?_
        refine x_iret hO hR dX4_freeAhead_23 rfl ?_
        exact ⟨by rw [← hg]; rfl, rfl⟩
      · exact absurd (by decide) c
    | succ i ih =>
      intro hik hg
      have hi : i < 32 := by omega
      refine x_iload_n hO dX4_freeAhead_4 rfl rfl ?_
      refine x_if_lt (tgt := 22) hO dX4_freeAhead_5 (by decide) (fun c => ?_) (fun c => ?_)
      · exact absurd c (nI_pos (by omega))
      · refine x_aload_n hO dX4_freeAhead_8 rfl rfl ?_
        refine x_iload_n hO dX4_freeAhead_9 rfl rfl ?_
        refine x_callV1 hO (m_isFree U M hi) dX4_freeAhead_10 lkX4_51 fX4_isFree vX4_isFree (by decide) rfl rfl rfl rfl rfl (by decide) (Nat.le_of_ble_eq_true rfl) ?_
        refine x_if_ne (tgt := 22) hO dX4_freeAhead_13 (by decide) (fun c2 => ?_) (fun c2 => ?_)
        · refine x_iload_n hO dX4_freeAhead_22 rfl rfl ?_
          refine x_iret hO hR dX4_freeAhead_23 rfl ?_
          exact ⟨by rw [← hg, nL_t (by simpa [pFr] using bI_1 c2)], rfl⟩
        · refine x_iinc hO dX4_freeAhead_16 rfl (xm_dec i) rfl hN ?_
          refine x_goto (tgt := 4) hO dX4_freeAhead_19 (by decide) ?_
          exact ih (by omega) (by rw [← hg, nL_f (by simpa [pFr] using bI_0 c2)])
  exact loop b hb hg
