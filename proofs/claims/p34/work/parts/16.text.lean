/-! ===== what a text says: T its characters, n their number ===== -/
abbrev tT : Type := Nat → Int32
def sg (T : tT) (n p : Nat) : Int32 := if p < n then T p else -1
def isBt (x : Int32) : Bool := x == nI 48 || (x == nI 49 || x == nI 42)
def isD (x : Int32) : Bool := decide (nI 48 ≤ x) && decide (x ≤ nI 57)
/-- how many of the eight characters from p on are bits, till the first that isn't -/
def rE (T : tT) (n p : Nat) : Nat := nF (fun i => !isBt (sg T n (p + i))) 0 8
/-- the mask and the value of the first i characters from p on -/
def eM (T : tT) (p : Nat) : Nat → Nat
  | 0 => 0
  | i + 1 => eM T p i + (if T (p + i) = nI 42 then 0 else 128 / 2 ^ i)
def eV (T : tT) (p : Nat) : Nat → Nat
  | 0 => 0
  | i + 1 => eV T p i + (if T (p + i) = nI 49 then 128 / 2 ^ i else 0)
/-- how many digits the rank has -/
def rK (T : tT) (n p : Nat) : Nat := if isD (sg T n (p + 10)) then 2 else 1
def rOK (T : tT) (n p : Nat) : Bool := decide (rE T n p = 8) && ((sg T n (p + 8) == nI 44) && (isD (sg T n (p + 9)) && ((sg T n (p + 9 + rK T n p) == nI 44) && isD (sg T n (p + 10 + rK T n p)))))
/-- where the rule from p on ends, or its fault -/
def rEnd (T : tT) (n p : Nat) : Nat := if rE T n p = 8 then (if sg T n (p + 8) = nI 44 then (if isD (sg T n (p + 9)) then (if sg T n (p + 9 + rK T n p) = nI 44 then (if isD (sg T n (p + 10 + rK T n p)) then p + 11 + rK T n p else p + 10 + rK T n p) else p + 9 + rK T n p) else p + 9) else p + 8) else p + rE T n p
def rRank (T : tT) (n p : Nat) : Int32 := if isD (sg T n (p + 10)) then nI 10 * (T (p + 9) - nI 48) + (T (p + 10) - nI 48) else T (p + 9) - nI 48
def rAct (T : tT) (n p : Nat) : Int32 := T (p + 10 + rK T n p) - nI 48
/-- the rules from p on, i have been read: whether the text is good, where it ends or its fault, how many rules -/
def tx (T : tT) (n : Nat) : Nat → Nat → Nat → Bool × Nat × Nat
  | 0, p, i => (false, p, i)
  | d + 1, p, i => if rOK T n p then (if rEnd T n p = n then (true, rEnd T n p, i + 1) else if sg T n (rEnd T n p) = nI 59 then tx T n d (rEnd T n p + 1) (i + 1) else (false, rEnd T n p, i + 1)) else (false, rEnd T n p, i)
/-- where the rule i begins -/
def tB (T : tT) (n : Nat) : Nat → Nat
  | 0 => 0
  | i + 1 => rEnd T n (tB T n i) + 1
theorem sg_in {T : tT} {n p : Nat} (h : p < n) : sg T n p = T p := if_pos h
theorem sg_out {T : tT} {n p : Nat} (h : n ≤ p) : sg T n p = -1 := if_neg (by omega)
theorem sg_lt {T : tT} {n p : Nat} {x : Int32} (h : sg T n p = x) (hx : x ≠ -1) : p < n := by
  rcases Nat.lt_or_ge p n with q | q
  · exact q
  · rw [sg_out q] at h
    exact absurd h.symm hx
theorem isD_lt {T : tT} {n p : Nat} (h : isD (sg T n p) = true) : p < n := by
  rcases Nat.lt_or_ge p n with q | q
  · exact q
  · rw [sg_out q] at h
    exact absurd h (by decide)
theorem isBt_lt {T : tT} {n p : Nat} (h : isBt (sg T n p) = true) : p < n := by
  rcases Nat.lt_or_ge p n with q | q
  · exact q
  · rw [sg_out q] at h
    exact absurd h (by decide)
theorem isD_n {x : Int32} (h : isD x = true) : ∃ j : Nat, j ≤ 9 ∧ x = nI (48 + j) := by
  simp only [isD, Bool.and_eq_true, decide_eq_true_eq] at h
  have h0 : ¬ x < 0 := by
    have := h.1
    rw [Int32.le_iff_toInt_le, nI_toInt (by decide)] at this
    rw [Int32.lt_iff_toInt_lt, show (0 : Int32).toInt = 0 from rfl]
    omega
  obtain ⟨k, hk, rfl⟩ := nI_of h0
  have a := (nI_leI (by decide) hk).mp h.1
  have b := (nI_leI hk (by decide)).mp h.2
  exact ⟨k - 48, by omega, by rw [show 48 + (k - 48) = k by omega]⟩
theorem rE_le (T : tT) (n p : Nat) : rE T n p ≤ 8 := by have := (nF_le (P := fun i => !isBt (sg T n (p + i))) 8 0).2; exact this
theorem rE_bt {T : tT} {n p i : Nat} (h : i < rE T n p) : isBt (sg T n (p + i)) = true := by
  have := nF_no (P := fun i => !isBt (sg T n (p + i))) 8 0 i (Nat.zero_le _) h
  simpa using this
theorem rE_lt {T : tT} {n p : Nat} (h : 0 < rE T n p) : p + rE T n p ≤ n := by
  have := isBt_lt (rE_bt (T := T) (n := n) (p := p) (i := rE T n p - 1) (by omega))
  omega
theorem eM_le (T : tT) (p : Nat) : ∀ i, i ≤ 8 → eM T p i + 256 / 2 ^ i ≤ 256
  | 0, _ => by simp [eM]
  | i + 1, h => by
    have ih := eM_le T p i (by omega)
    have e : 128 / 2 ^ i + 256 / 2 ^ (i + 1) ≤ 256 / 2 ^ i := by
      obtain rfl | rfl | rfl | rfl | rfl | rfl | rfl | rfl : i = 0 ∨ i = 1 ∨ i = 2 ∨ i = 3 ∨ i = 4 ∨ i = 5 ∨ i = 6 ∨ i = 7 := by omega
      all_goals decide
    simp only [eM]
    generalize 128 / 2 ^ i = u at *
    generalize 256 / 2 ^ (i + 1) = v at *
    generalize 256 / 2 ^ i = w at *
    split <;> omega
theorem eV_le (T : tT) (p : Nat) : ∀ i, i ≤ 8 → eV T p i + 256 / 2 ^ i ≤ 256
  | 0, _ => by simp [eV]
  | i + 1, h => by
    have ih := eV_le T p i (by omega)
    have e : 128 / 2 ^ i + 256 / 2 ^ (i + 1) ≤ 256 / 2 ^ i := by
      obtain rfl | rfl | rfl | rfl | rfl | rfl | rfl | rfl : i = 0 ∨ i = 1 ∨ i = 2 ∨ i = 3 ∨ i = 4 ∨ i = 5 ∨ i = 6 ∨ i = 7 := by omega
      all_goals decide
    simp only [eV]
    generalize 128 / 2 ^ i = u at *
    generalize 256 / 2 ^ (i + 1) = v at *
    generalize 256 / 2 ^ i = w at *
    split <;> omega
theorem rK_12 (T : tT) (n p : Nat) : rK T n p = 1 ∨ rK T n p = 2 := by
  unfold rK
  split
  · exact Or.inr rfl
  · exact Or.inl rfl
theorem rOK_end {T : tT} {n p : Nat} (h : rOK T n p = true) : rEnd T n p = p + 11 + rK T n p ∧ p + 11 + rK T n p ≤ n := by
  simp only [rOK, Bool.and_eq_true, decide_eq_true_eq, beq_iff_eq] at h
  obtain ⟨h1, h2, h3, h4, h5⟩ := h
  have := isD_lt h5
  refine ⟨?_, by omega⟩
  unfold rEnd
  rw [if_pos h1, if_pos h2, if_pos h3, if_pos h4, if_pos h5]
theorem rEnd_le (T : tT) {n p : Nat} (h : p ≤ n) : rEnd T n p ≤ n := by
  have e := rE_le T n p
  unfold rEnd
  split
  · rename_i h1
    have a := rE_lt (T := T) (n := n) (p := p) (by omega)
    split
    · rename_i h2
      have a2 := sg_lt h2 (by decide)
      split
      · rename_i h3
        have a3 := isD_lt h3
        have k := rK_12 T n p
        have ak : p + 9 + rK T n p ≤ n := by
          unfold rK
          split
          · rename_i q
            have := isD_lt q
            omega
          · omega
        split
        · rename_i h4
          have a4 := sg_lt h4 (by decide)
          split
          · rename_i h5
            have := isD_lt h5
            omega
          · omega
        · exact ak
      · omega
    · omega
  · rename_i h1
    rcases Nat.eq_zero_or_pos (rE T n p) with q | q
    · omega
    · exact rE_lt q
theorem upd_at (f : Nat → Int32) (k : Nat) (x : Int32) (j : Nat) : upd f k x j = if j = k then x else f j := rfl
theorem upd_up (f : Nat → Int32) (k : Nat) (x y : Int32) : upd (upd f k x) k y = upd f k y := by
  funext j
  simp only [upd_at]
  split <;> rfl
theorem xset_same (M : xM) (k j : Nat) (x : Int32) : xset M k j x k = upd (M k) j x := by
  funext a
  rw [xset_at, if_pos rfl]
  rfl
theorem xset_ne (M : xM) {k k2 : Nat} (j : Nat) (x : Int32) (h : k2 ≠ k) : xset M k j x k2 = M k2 := by
  funext a
  rw [xset_at, if_neg h]
/-! ===== RuleText ===== -/
theorem k_sign (U : xP) (M : xM) {n p : Nat} (h1 : M 3 1 = nI n) (h2 : M 3 2 = nI p) (hn : n ≤ 60) (hp : p ≤ n) : xMetI U mX2_sign [.inr 3] M (fun r M' => r = sg (M 4) n p ∧ M' = M) := by
  refine xMetI.of (ty := .int) (L := [some (.inr 3)]) fX2_sign rfl rfl (Nat.le_of_ble_eq_true rfl) (fun G hN hO hR => ?_)
  have hN : G.2.2.2.2.2.2.2.2.2.2.1 = 1 := hN
  have hO : xOK U G RX2 cX2_sign 0 := hO
  unfold sg at hR
  refine x_aload_n hO dX2_sign_0 rfl rfl ?_
  refine x_getI (T := TX2) (j := 2) hO dX2_sign_1 flX2_19 (by decide) rfl rfl (by decide) rfl rfl ?_
  rw [h2]
  refine x_if_lt (tgt := 39) hO dX2_sign_4 (by decide) (fun c => ?_) (fun c => ?_)
  · exact absurd c (nI_pos (by omega))
  · refine x_aload_n hO dX2_sign_7 rfl rfl ?_
    refine x_getI (T := TX2) (j := 2) hO dX2_sign_8 flX2_19 (by decide) rfl rfl (by decide) rfl rfl ?_
    refine x_aload_n hO dX2_sign_11 rfl rfl ?_
    refine x_getI (T := TX2) (j := 1) hO dX2_sign_12 flX2_15 (by decide) rfl rfl (by decide) rfl rfl ?_
    rw [h1, h2]
    refine x_icmp_ge (tgt := 39) hO dX2_sign_15 (by decide) (fun c1 => ?_) (fun c1 => ?_)
    · have q : n ≤ p := (nI_leI (by omega) (by omega)).mp c1
      rw [if_neg (by omega)] at hR
      refine x_iconst (v := (-1 : Int32)) hO dX2_sign_39 rfl ?_
      refine x_iret hO hR dX2_sign_40 rfl ?_
      exact ⟨rfl, rfl⟩
    · have q : p < n := by
        rcases Nat.lt_or_ge p n with q | q
        · exact q
        · exact absurd ((nI_leI (by omega) (by omega)).mpr q) c1
      rw [if_pos q] at hR
      refine x_aload_n hO dX2_sign_18 rfl rfl ?_
      refine x_getI (T := TX2) (j := 2) hO dX2_sign_19 flX2_19 (by decide) rfl rfl (by decide) rfl rfl ?_
      refine x_bipush (v := nI 60) hO dX2_sign_22 rfl ?_
      rw [h2]
      refine x_icmp_ge (tgt := 39) hO dX2_sign_24 (by decide) (fun c2 => ?_) (fun c2 => ?_)
      · exact absurd c2 (nI_ge (by omega) (by decide))
      · have hp60 : p < 60 := by omega
        refine x_aload_n hO dX2_sign_27 rfl rfl ?_
        refine x_getR (T := TX2) (j := 0) hO dX2_sign_28 flX2_11 (by decide) rfl rfl (by decide) rfl rfl ?_
        refine x_aload_n hO dX2_sign_31 rfl rfl ?_
        refine x_getI (T := TX2) (j := 2) hO dX2_sign_32 flX2_19 (by decide) rfl rfl (by decide) rfl rfl ?_
        refine x_iald hO (by decide) rfl (by decide) (h2) (hp60) dX2_sign_35 ?_
        refine x_goto (tgt := 40) hO dX2_sign_36 (by decide) ?_
        refine x_iret hO hR dX2_sign_40 rfl ?_
        exact ⟨rfl, rfl⟩
def dgI (x : Int32) : Int32 := if isD x then x - nI 48 else -1
theorem k_digit (U : xP) (M : xM) {n p : Nat} (h1 : M 3 1 = nI n) (h2 : M 3 2 = nI p) (hn : n ≤ 60) (hp : p ≤ n) : xMetI U mX2_digit [.inr 3] M (fun r M' => r = dgI (sg (M 4) n p) ∧ M' = M) := by
  refine xMetI.of (ty := .int) (L := [some (.inr 3), none]) fX2_digit rfl rfl (Nat.le_of_ble_eq_true rfl) (fun G hN hO hR => ?_)
  have hN : G.2.2.2.2.2.2.2.2.2.2.1 = 2 := hN
  have hO : xOK U G RX2 cX2_digit 1 := hO
  unfold dgI at hR
  refine x_aload_n hO dX2_digit_0 rfl rfl ?_
  refine x_callV1 hO (k_sign U M h1 h2 hn hp) dX2_digit_1 lkX2_51 fX2_sign vX2_sign (by decide) rfl rfl rfl rfl rfl (by decide) (Nat.le_of_ble_eq_true rfl) ?_
  generalize sg (M 4) n p = x at *
  refine x_istore_n (n := 2) hO dX2_digit_4 rfl rfl (by decide) hN ?_
  refine x_iload_n hO dX2_digit_5 rfl rfl ?_
  refine x_bipush (v := nI 48) hO dX2_digit_6 rfl ?_
  refine x_icmp_lt (tgt := 24) hO dX2_digit_8 (by decide) (fun c => ?_) (fun c => ?_)
  · rw [if_neg (by simp [isD, Int32.not_le.mpr c])] at hR
    refine x_iconst (v := (-1 : Int32)) hO dX2_digit_24 rfl ?_
    refine x_iret hO hR dX2_digit_25 rfl ?_
    exact ⟨rfl, rfl⟩
  · refine x_iload_n hO dX2_digit_11 rfl rfl ?_
    refine x_bipush (v := nI 57) hO dX2_digit_12 rfl ?_
    refine x_icmp_gt (tgt := 24) hO dX2_digit_14 (by decide) (fun c2 => ?_) (fun c2 => ?_)
    · rw [if_neg (by simp [isD, Int32.not_le.mpr c2])] at hR
      refine x_iconst (v := (-1 : Int32)) hO dX2_digit_24 rfl ?_
      refine x_iret hO hR dX2_digit_25 rfl ?_
      exact ⟨rfl, rfl⟩
    · rw [if_pos (by simp [isD, Int32.not_lt.mp c, Int32.not_lt.mp c2])] at hR
      refine x_iload_n hO dX2_digit_17 rfl rfl ?_
      refine x_bipush (v := nI 48) hO dX2_digit_18 rfl ?_
      refine x_isub hO dX2_digit_20 ?_
      refine x_goto (tgt := 25) hO dX2_digit_21 (by decide) ?_
      refine x_iret hO hR dX2_digit_25 rfl ?_
      exact ⟨rfl, rfl⟩
theorem dgI_neg {x : Int32} : dgI x < 0 ↔ isD x = false := by
  unfold dgI
  cases h : isD x with
  | false => simp
  | true =>
    obtain ⟨j, hj, rfl⟩ := isD_n h
    rw [if_pos rfl, pk_sub (by omega)]
    simp
    exact Int32.not_lt.mp (nI_pos (by omega))
theorem dgI_ge {x : Int32} : 0 ≤ dgI x ↔ isD x = true := by
  rw [← Int32.not_lt, dgI_neg]
  simp
theorem k_skip (U : xP) (M : xM) {n p : Nat} (h1 : M 3 1 = nI n) (h2 : M 3 2 = nI p) (hn : n ≤ 60) (hp : p ≤ n) (x : Int32) : xMetI U mX2_skip [.inr 3, .inl x] M (fun r M' => r = bI (sg (M 4) n p == x) ∧ M' = if sg (M 4) n p = x then xset M 3 2 (nI (p + 1)) else M) := by
  refine xMetI.of (ty := .boolean) (L := [some (.inr 3), some (.inl x)]) fX2_skip rfl rfl (Nat.le_of_ble_eq_true rfl) (fun G hN hO hR => ?_)
  have hN : G.2.2.2.2.2.2.2.2.2.2.1 = 2 := hN
  have hO : xOK U G RX2 cX2_skip 1 := hO
  refine x_aload_n hO dX2_skip_0 rfl rfl ?_
  refine x_callV1 hO (k_sign U M h1 h2 hn hp) dX2_skip_1 lkX2_51 fX2_sign vX2_sign (by decide) rfl rfl rfl rfl rfl (by decide) (Nat.le_of_ble_eq_true rfl) ?_
  refine x_iload_n hO dX2_skip_4 rfl rfl ?_
  refine x_icmp_eq (tgt := 10) hO dX2_skip_5 (by decide) (fun c => ?_) (fun c => ?_)
  · rw [if_pos c] at hR
    refine x_aload_n hO dX2_skip_10 rfl rfl ?_
    refine x_dup hO dX2_skip_11 ?_
    refine x_getI (T := TX2) (j := 2) hO dX2_skip_12 flX2_19 (by decide) rfl rfl (by decide) rfl rfl ?_
    refine x_iconst (v := nI 1) hO dX2_skip_15 rfl ?_
    rw [h2]
    refine x_iadd hO dX2_skip_16 ?_
    rw [nI_add]
    refine x_put (T := TX2) (j := 2) (ty := .int) hO dX2_skip_17 flX2_19 (by decide) rfl rfl (by decide) rfl rfl rfl (by decide +kernel) rfl rfl ?_
    refine x_iconst (v := nI 1) hO dX2_skip_20 rfl ?_
    refine x_iret hO hR dX2_skip_21 rfl ?_
    exact ⟨bI_t (by simp [c]), rfl⟩
  · rw [if_neg c] at hR
    refine x_iconst (v := nI 0) hO dX2_skip_8 rfl ?_
    refine x_iret hO hR dX2_skip_9 rfl ?_
    exact ⟨bI_f (by simp [c]), rfl⟩
theorem k_readEntry (U : xP) (M : xM) {n p r : Nat} (h1 : M 3 1 = nI n) (h2 : M 3 2 = nI p) (hn : n ≤ 60) (hp : p ≤ n) (hr : r < 5) : xMetI U mX2_readEntry [.inr 3, .inl (nI r)] M (fun v M' => v = bI (decide (rE (M 4) n p = 8)) ∧ M' 3 = upd (M 3) 2 (nI (p + rE (M 4) n p)) ∧ (rE (M 4) n p = 8 → M' 5 = upd (M 5) r (nI (eM (M 4) p 8)) ∧ M' 6 = upd (M 6) r (nI (eV (M 4) p 8))) ∧ ∀ k, k ≠ 3 → k ≠ 5 → k ≠ 6 → M' k = M k) := by
  refine xMetI.of (ty := .boolean) (L := [some (.inr 3), some (.inl (nI r)), none, none, none, none]) fX2_readEntry rfl rfl (Nat.le_of_ble_eq_true rfl) (fun G hN hO hR => ?_)
  have hN : G.2.2.2.2.2.2.2.2.2.2.1 = 6 := hN
  have hO : xOK U G RX2 cX2_readEntry 1 := hO
  generalize hg : rE (M 4) n p = g at hR
  have hge : g ≤ 8 := by rw [← hg]; exact rE_le _ _ _
  refine x_iconst (v := nI 0) hO dX2_readEntry_0 rfl ?_
  refine x_istore_n (n := 6) hO dX2_readEntry_1 rfl rfl (by decide) hN ?_
  refine x_iconst (v := nI 0) hO dX2_readEntry_2 rfl ?_
  refine x_istore_n (n := 6) hO dX2_readEntry_3 rfl rfl (by decide) hN ?_
  refine x_sipush (v := nI 128) hO dX2_readEntry_4 rfl ?_
  refine x_istore (n := 6) hO dX2_readEntry_7 rfl (by decide) hN ?_
  refine upd_ind (P := fun i d => ∀ (o : Option xV) (M1 : xM), p + i ≤ n ∨ i = 0 → nF (fun i => !isBt (sg (M 4) n (p + i))) i d = g → M1 3 = upd (M 3) 2 (nI (p + i)) → (∀ k, k ≠ 3 → M1 k = M k) → XW U G 9 [some (.inr 3), some (.inl (nI r)), some (.inl (nI (eM (M 4) p i))), some (.inl (nI (eV (M 4) p i))), some (.inl (nI (128 / 2 ^ i))), o] [] M1) 8 ?_ ?_ 8 0 rfl _ M (Or.inr rfl) hg ?_ (fun k _ => rfl)
  · intro o M1 _ hg2 h3 h4
    have g8 : g = 8 := hg2.symm
    subst g8
    refine x_iload hO dX2_readEntry_9 rfl ?_
    refine x_if_le (tgt := 94) hO dX2_readEntry_11 (by decide) (fun c => ?_) (fun c => ?_)
    · refine x_iload_n hO dX2_readEntry_94 rfl rfl ?_
      refine x_if_lt (tgt := 117) hO dX2_readEntry_95 (by decide) (fun c1 => ?_) (fun c1 => ?_)
      · exact absurd c1 (nI_pos (by omega))
      · refine x_iload_n hO dX2_readEntry_98 rfl rfl ?_
        refine x_iconst (v := nI 5) hO dX2_readEntry_99 rfl ?_
        refine x_icmp_ge (tgt := 117) hO dX2_readEntry_100 (by decide) (fun c2 => ?_) (fun c2 => ?_)
        · exact absurd c2 (nI_ge hr (by decide))
        · refine x_aload_n hO dX2_readEntry_103 rfl rfl ?_
          refine x_getR (T := TX2) (j := 4) hO dX2_readEntry_104 flX2_25 (by decide) rfl rfl (by decide) rfl rfl ?_
          refine x_iload_n hO dX2_readEntry_107 rfl rfl ?_
          refine x_iload_n hO dX2_readEntry_108 rfl rfl ?_
          refine x_iast hO (by decide) rfl (by decide) (rfl) (hr) dX2_readEntry_109 ?_
          refine x_aload_n hO dX2_readEntry_110 rfl rfl ?_
          refine x_getR (T := TX2) (j := 5) hO dX2_readEntry_111 flX2_28 (by decide) rfl rfl (by decide) rfl rfl ?_
          refine x_iload_n hO dX2_readEntry_114 rfl rfl ?_
          refine x_iload_n hO dX2_readEntry_115 rfl rfl ?_
          refine x_iast hO (by decide) rfl (by decide) (rfl) (hr) dX2_readEntry_116 ?_
          refine x_iconst (v := nI 1) hO dX2_readEntry_117 rfl ?_
          refine x_iret hO hR dX2_readEntry_118 rfl ?_
          refine ⟨bI_t rfl, ?_, fun _ => ⟨?_, ?_⟩, fun k n3 n5 n6 => ?_⟩
          · rw [xset_ne _ _ _ (by decide), xset_ne _ _ _ (by decide)]
            exact h3
          · rw [xset_ne _ _ _ (by decide), xset_same, h4 5 (by decide)]
          · rw [xset_same, xset_ne _ _ _ (by decide), h4 6 (by decide)]
          · rw [xset_ne _ _ _ n6, xset_ne _ _ _ n5, h4 k n3]
    · exact absurd (by decide) c
  · intro i d hd ih o M1 hpi hg2 h3 h4
    have hi : i < 8 := by omega
    have b31 : M1 3 1 = nI n := by rw [h3]; exact h1
    have b32 : M1 3 2 = nI (p + i) := by rw [h3]; rfl
    have hpos : 0 < 128 / 2 ^ i := by
      obtain rfl | rfl | rfl | rfl | rfl | rfl | rfl | rfl : i = 0 ∨ i = 1 ∨ i = 2 ∨ i = 3 ∨ i = 4 ∨ i = 5 ∨ i = 6 ∨ i = 7 := by omega
      all_goals decide
    have hle : 128 / 2 ^ i ≤ 128 := Nat.div_le_self _ _
    have hh : 128 / 2 ^ i / 2 = 128 / 2 ^ (i + 1) := by rw [Nat.div_div_eq_div_mul, Nat.pow_succ]
    refine x_iload hO dX2_readEntry_9 rfl ?_
    refine x_if_le (tgt := 94) hO dX2_readEntry_11 (by decide) (fun c => ?_) (fun c => ?_)
    · exact absurd c (nI_nle hpos (by omega))
    · refine x_aload_n hO dX2_readEntry_14 rfl rfl ?_
      refine x_callV1 hO (k_sign U M1 b31 b32 hn (by omega)) dX2_readEntry_15 lkX2_51 fX2_sign vX2_sign (by decide) rfl rfl rfl rfl rfl (by decide) (Nat.le_of_ble_eq_true rfl) ?_
      rw [h4 4 (by decide)]
      have tail : ∀ (m v : Nat), m = eM (M 4) p (i + 1) → v = eV (M 4) p (i + 1) → isBt (sg (M 4) n (p + i)) = true → ∀ o, XW U G 75 [some (.inr 3), some (.inl (nI r)), some (.inl (nI m)), some (.inl (nI v)), some (.inl (nI (128 / 2 ^ i))), o] [] M1 := by
        intro m v hm hv hb o
        have hlt := isBt_lt hb
        refine x_aload_n hO dX2_readEntry_75 rfl rfl ?_
        refine x_dup hO dX2_readEntry_76 ?_
        refine x_getI (T := TX2) (j := 2) hO dX2_readEntry_77 flX2_19 (by decide) rfl rfl (by decide) rfl rfl ?_
        rw [b32]
        refine x_iconst (v := nI 1) hO dX2_readEntry_80 rfl ?_
        refine x_iadd hO dX2_readEntry_81 ?_
        rw [nI_add]
        refine x_put (T := TX2) (j := 2) (ty := .int) hO dX2_readEntry_82 flX2_19 (by decide) rfl rfl (by decide) rfl rfl rfl (by decide +kernel) rfl rfl ?_
        refine x_iload hO dX2_readEntry_85 rfl ?_
        have n2 : ¬ nI 2 = 0 := by decide
        refine x_iconst (v := nI 2) hO dX2_readEntry_87 rfl ?_
        refine x_idiv hO dX2_readEntry_88 (n2) ?_
        rw [pk_div (by omega) (by decide) (by decide), hh, hm, hv]
        refine x_istore (n := 6) hO dX2_readEntry_89 rfl (by decide) hN ?_
        refine x_goto (tgt := 9) hO dX2_readEntry_91 (by decide) ?_
        refine ih _ _ (Or.inl (by omega)) (by rw [← hg2, nF_f (P := fun i => !isBt (sg (M 4) n (p + i))) (by simp [hb])]) ?_ (fun k hk => ?_)
        · rw [xset_same, h3, upd_up]
          rfl
        · rw [xset_ne _ _ _ hk, h4 k hk]
      have good : isBt (sg (M 4) n (p + i)) = true → XW U G 43 [some (.inr 3), some (.inl (nI r)), some (.inl (nI (eM (M 4) p i))), some (.inl (nI (eV (M 4) p i))), some (.inl (nI (128 / 2 ^ i))), some (.inl (sg (M 4) n (p + i)))] [] M1 := by
        intro hb
        have hs : sg (M 4) n (p + i) = M 4 (p + i) := sg_in (isBt_lt hb)
        have second : ∀ m : Nat, m = eM (M 4) p (i + 1) → XW U G 59 [some (.inr 3), some (.inl (nI r)), some (.inl (nI m)), some (.inl (nI (eV (M 4) p i))), some (.inl (nI (128 / 2 ^ i))), some (.inl (sg (M 4) n (p + i)))] [] M1 := by
          intro m hm
          refine x_iload_n hO dX2_readEntry_59 rfl rfl ?_
          refine x_iload hO dX2_readEntry_60 rfl ?_
          refine x_bipush (v := nI 49) hO dX2_readEntry_62 rfl ?_
          refine x_icmp_ne (tgt := 72) hO dX2_readEntry_64 (by decide) (fun c5 => ?_) (fun c5 => ?_)
          · refine x_iconst (v := nI 0) hO dX2_readEntry_72 rfl ?_
            refine x_iadd hO dX2_readEntry_73 ?_
            rw [nI_add]
            refine x_istore_n (n := 6) hO dX2_readEntry_74 rfl rfl (by decide) hN ?_
            exact tail m _ hm (by simp only [eV]; rw [if_neg (by rw [← hs]; exact c5)]) hb _
          · refine x_iload hO dX2_readEntry_67 rfl ?_
            refine x_goto (tgt := 73) hO dX2_readEntry_69 (by decide) ?_
            refine x_iadd hO dX2_readEntry_73 ?_
            rw [nI_add]
            refine x_istore_n (n := 6) hO dX2_readEntry_74 rfl rfl (by decide) hN ?_
            exact tail m _ hm (by simp only [eV]; rw [if_pos (by rw [← hs]; exact c5)]) hb _
        refine x_iload_n hO dX2_readEntry_43 rfl rfl ?_
        refine x_iload hO dX2_readEntry_44 rfl ?_
        refine x_bipush (v := nI 42) hO dX2_readEntry_46 rfl ?_
        refine x_icmp_ne (tgt := 55) hO dX2_readEntry_48 (by decide) (fun c5 => ?_) (fun c5 => ?_)
        · refine x_iload hO dX2_readEntry_55 rfl ?_
          refine x_iadd hO dX2_readEntry_57 ?_
          rw [nI_add]
          refine x_istore_n (n := 6) hO dX2_readEntry_58 rfl rfl (by decide) hN ?_
          exact second _ (by simp only [eM]; rw [if_neg (by rw [← hs]; exact c5)])
        · refine x_iconst (v := nI 0) hO dX2_readEntry_51 rfl ?_
          refine x_goto (tgt := 57) hO dX2_readEntry_52 (by decide) ?_
          refine x_iadd hO dX2_readEntry_57 ?_
          rw [nI_add]
          refine x_istore_n (n := 6) hO dX2_readEntry_58 rfl rfl (by decide) hN ?_
          exact second _ (by simp only [eM]; rw [if_pos (by rw [← hs]; exact c5)])
      refine x_istore (n := 6) hO dX2_readEntry_18 rfl (by decide) hN ?_
      refine x_iload hO dX2_readEntry_20 rfl ?_
      refine x_bipush (v := nI 48) hO dX2_readEntry_22 rfl ?_
      refine x_icmp_eq (tgt := 43) hO dX2_readEntry_24 (by decide) (fun c1 => ?_) (fun c1 => ?_)
      · exact good (by simp [isBt, c1])
      · refine x_iload hO dX2_readEntry_27 rfl ?_
        refine x_bipush (v := nI 49) hO dX2_readEntry_29 rfl ?_
        refine x_icmp_eq (tgt := 43) hO dX2_readEntry_31 (by decide) (fun c2 => ?_) (fun c2 => ?_)
        · exact good (by simp [isBt, c2])
        · refine x_iload hO dX2_readEntry_34 rfl ?_
          refine x_bipush (v := nI 42) hO dX2_readEntry_36 rfl ?_
          refine x_icmp_eq (tgt := 43) hO dX2_readEntry_38 (by decide) (fun c3 => ?_) (fun c3 => ?_)
          · exact good (by simp [isBt, c3])
          · refine x_iconst (v := nI 0) hO dX2_readEntry_41 rfl ?_
            refine x_iret hO hR dX2_readEntry_42 rfl ?_
            have hgi : g = i := by rw [← hg2, nF_t (P := fun i => !isBt (sg (M 4) n (p + i))) (by simp [isBt, c1, c2, c3])]
            subst hgi
            exact ⟨bI_f (by simp; omega), h3, fun z => by omega, fun k n3 _ _ => h4 k n3⟩
  · funext j
    rw [upd_at]
    split
    · rename_i e
      rw [e]
      exact h2
    · rfl
theorem k_readRank (U : xP) (M : xM) {n p r : Nat} (h1 : M 3 1 = nI n) (h2 : M 3 2 = nI p) (hn : n ≤ 60) (hp : p ≤ n) (hr : r < 5) : xMetI U mX2_readRank [.inr 3, .inl (nI r)] M (fun v M' => v = bI (isD (sg (M 4) n p)) ∧ M' 3 = upd (M 3) 2 (nI (if isD (sg (M 4) n p) then (if isD (sg (M 4) n (p + 1)) then p + 2 else p + 1) else p)) ∧ (isD (sg (M 4) n p) = true → M' 7 = upd (M 7) r (if isD (sg (M 4) n (p + 1)) then nI 10 * (M 4 p - nI 48) + (M 4 (p + 1) - nI 48) else M 4 p - nI 48)) ∧ ∀ k, k ≠ 3 → k ≠ 7 → M' k = M k) := by
  refine xMetI.of (ty := .boolean) (L := [some (.inr 3), some (.inl (nI r)), none, none]) fX2_readRank rfl rfl (Nat.le_of_ble_eq_true rfl) (fun G hN hO hR => ?_)
  have hN : G.2.2.2.2.2.2.2.2.2.2.1 = 4 := hN
  have hO : xOK U G RX2 cX2_readRank 2 := hO
  have u0 : upd (M 3) 2 (nI p) = M 3 := by
    funext j
    rw [upd_at]
    split
    · rename_i e
      rw [e, h2]
    · rfl
  refine x_aload_n hO dX2_readRank_0 rfl rfl ?_
  refine x_callV1 hO (k_digit U M h1 h2 hn hp) dX2_readRank_1 lkX2_55 fX2_digit vX2_digit (by decide) rfl rfl rfl rfl rfl (by decide) (Nat.le_of_ble_eq_true rfl) ?_
  refine x_istore_n (n := 4) hO dX2_readRank_4 rfl rfl (by decide) hN ?_
  refine x_iload_n hO dX2_readRank_5 rfl rfl ?_
  refine x_if_ge (tgt := 11) hO dX2_readRank_6 (by decide) (fun c => ?_) (fun c => ?_)
  · have q := dgI_ge.mp c
    have hlt := isD_lt q
    rw [q] at hR
    simp only [if_true] at hR
    have e1 : dgI (sg (M 4) n p) = M 4 p - nI 48 := by unfold dgI; rw [q, if_pos rfl, sg_in hlt]
    rw [e1]
    refine x_aload_n hO dX2_readRank_11 rfl rfl ?_
    refine x_dup hO dX2_readRank_12 ?_
    refine x_getI (T := TX2) (j := 2) hO dX2_readRank_13 flX2_19 (by decide) rfl rfl (by decide) rfl rfl ?_
    rw [h2]
    refine x_iconst (v := nI 1) hO dX2_readRank_16 rfl ?_
    refine x_iadd hO dX2_readRank_17 ?_
    rw [nI_add]
    refine x_put (T := TX2) (j := 2) (ty := .int) hO dX2_readRank_18 flX2_19 (by decide) rfl rfl (by decide) rfl rfl rfl (by decide +kernel) rfl rfl ?_
    refine x_aload_n hO dX2_readRank_21 rfl rfl ?_
    have b31 : xset M 3 2 (nI (p + 1)) 3 1 = nI n := by rw [xset_at, if_pos rfl, if_neg (by decide), h1]
    have b32 : xset M 3 2 (nI (p + 1)) 3 2 = nI (p + 1) := by rw [xset_at, if_pos rfl, if_pos rfl]
    have b4 : xset M 3 2 (nI (p + 1)) 4 = M 4 := xset_ne _ _ _ (by decide)
    have b3 : xset M 3 2 (nI (p + 1)) 3 = upd (M 3) 2 (nI (p + 1)) := xset_same ..
    have bk : ∀ k, k ≠ 3 → xset M 3 2 (nI (p + 1)) k = M k := fun k hk => xset_ne _ _ _ hk
    generalize xset M 3 2 (nI (p + 1)) = M1 at *
    refine x_callV1 hO (k_digit U M1 b31 b32 hn (by omega)) dX2_readRank_22 lkX2_55 fX2_digit vX2_digit (by decide) rfl rfl rfl rfl rfl (by decide) (Nat.le_of_ble_eq_true rfl) ?_
    rw [b4]
    refine x_istore_n (n := 4) hO dX2_readRank_25 rfl rfl (by decide) hN ?_
    refine x_iload_n hO dX2_readRank_26 rfl rfl ?_
    have tail : ∀ (x : Int32) (o : Option xV) (M2 : xM) (p2 : Nat), M2 3 = upd (M 3) 2 (nI p2) → (∀ k, k ≠ 3 → M2 k = M k) → p2 = (if isD (sg (M 4) n (p + 1)) then p + 2 else p + 1) → x = (if isD (sg (M 4) n (p + 1)) then nI 10 * (M 4 p - nI 48) + (M 4 (p + 1) - nI 48) else M 4 p - nI 48) → XW U G 47 [some (.inr 3), some (.inl (nI r)), some (.inl x), o] [] M2 := by
      intro x o M2 p2 g1 g2 g3 g4
      refine x_iload_n hO dX2_readRank_47 rfl rfl ?_
      refine x_if_lt (tgt := 63) hO dX2_readRank_48 (by decide) (fun c1 => ?_) (fun c1 => ?_)
      · exact absurd c1 (nI_pos (by omega))
      · refine x_iload_n hO dX2_readRank_51 rfl rfl ?_
        refine x_iconst (v := nI 5) hO dX2_readRank_52 rfl ?_
        refine x_icmp_ge (tgt := 63) hO dX2_readRank_53 (by decide) (fun c2 => ?_) (fun c2 => ?_)
        · exact absurd c2 (nI_ge hr (by decide))
        · refine x_aload_n hO dX2_readRank_56 rfl rfl ?_
          refine x_getR (T := TX2) (j := 6) hO dX2_readRank_57 flX2_31 (by decide) rfl rfl (by decide) rfl rfl ?_
          refine x_iload_n hO dX2_readRank_60 rfl rfl ?_
          refine x_iload_n hO dX2_readRank_61 rfl rfl ?_
          refine x_iast hO (by decide) rfl (by decide) (rfl) (hr) dX2_readRank_62 ?_
          refine x_iconst (v := nI 1) hO dX2_readRank_63 rfl ?_
          refine x_iret hO hR dX2_readRank_64 rfl ?_
          refine ⟨rfl, ?_, fun _ => ?_, fun k n3 n7 => ?_⟩
          · rw [xset_ne _ _ _ (by decide), g1, g3]
          · rw [xset_same, g2 7 (by decide), g4]
          · rw [xset_ne _ _ _ n7, g2 k n3]
    refine x_if_lt (tgt := 47) hO dX2_readRank_27 (by decide) (fun c1 => ?_) (fun c1 => ?_)
    · have q2 := dgI_neg.mp c1
      rw [q2] at tail
      exact tail _ _ M1 (p + 1) b3 bk (by simp) (by simp)
    · have q2 := dgI_ge.mp (Int32.not_lt.mp c1)
      have hlt2 := isD_lt q2
      have e2 : dgI (sg (M 4) n (p + 1)) = M 4 (p + 1) - nI 48 := by unfold dgI; rw [q2, if_pos rfl, sg_in hlt2]
      rw [q2] at tail
      rw [e2]
      refine x_bipush (v := nI 10) hO dX2_readRank_30 rfl ?_
      refine x_iload_n hO dX2_readRank_32 rfl rfl ?_
      refine x_imul hO dX2_readRank_33 ?_
      refine x_iload_n hO dX2_readRank_34 rfl rfl ?_
      refine x_iadd hO dX2_readRank_35 ?_
      refine x_istore_n (n := 4) hO dX2_readRank_36 rfl rfl (by decide) hN ?_
      refine x_aload_n hO dX2_readRank_37 rfl rfl ?_
      refine x_dup hO dX2_readRank_38 ?_
      refine x_getI (T := TX2) (j := 2) hO dX2_readRank_39 flX2_19 (by decide) rfl rfl (by decide) rfl rfl ?_
      rw [b32]
      refine x_iconst (v := nI 1) hO dX2_readRank_42 rfl ?_
      refine x_iadd hO dX2_readRank_43 ?_
      rw [nI_add]
      refine x_put (T := TX2) (j := 2) (ty := .int) hO dX2_readRank_44 flX2_19 (by decide) rfl rfl (by decide) rfl rfl rfl (by decide +kernel) rfl rfl ?_
      exact tail _ _ _ (p + 2) (by rw [xset_same, b3, upd_up]) (fun k hk => by rw [xset_ne _ _ _ hk, bk k hk]) (by simp) (by simp)
  · have q := dgI_neg.mp (Int32.not_le.mp c)
    rw [q] at hR
    simp only [if_false, Bool.false_eq_true] at hR
    refine x_iconst (v := nI 0) hO dX2_readRank_9 rfl ?_
    refine x_iret hO hR dX2_readRank_10 rfl ?_
    exact ⟨rfl, u0.symm, fun z => absurd z (by simp), fun k _ _ => rfl⟩
theorem k_readAction (U : xP) (M : xM) {n p r : Nat} (h1 : M 3 1 = nI n) (h2 : M 3 2 = nI p) (hn : n ≤ 60) (hp : p ≤ n) (hr : r < 5) : xMetI U mX2_readAction [.inr 3, .inl (nI r)] M (fun v M' => v = bI (isD (sg (M 4) n p)) ∧ M' 3 = upd (M 3) 2 (nI (if isD (sg (M 4) n p) then p + 1 else p)) ∧ (isD (sg (M 4) n p) = true → M' 8 = upd (M 8) r (M 4 p - nI 48)) ∧ ∀ k, k ≠ 3 → k ≠ 8 → M' k = M k) := by
  refine xMetI.of (ty := .boolean) (L := [some (.inr 3), some (.inl (nI r)), none]) fX2_readAction rfl rfl (Nat.le_of_ble_eq_true rfl) (fun G hN hO hR => ?_)
  have hN : G.2.2.2.2.2.2.2.2.2.2.1 = 3 := hN
  have hO : xOK U G RX2 cX2_readAction 2 := hO
  have u0 : upd (M 3) 2 (nI p) = M 3 := by
    funext j
    rw [upd_at]
    split
    · rename_i e
      rw [e, h2]
    · rfl
  refine x_aload_n hO dX2_readAction_0 rfl rfl ?_
  refine x_callV1 hO (k_digit U M h1 h2 hn hp) dX2_readAction_1 lkX2_55 fX2_digit vX2_digit (by decide) rfl rfl rfl rfl rfl (by decide) (Nat.le_of_ble_eq_true rfl) ?_
  refine x_istore_n (n := 3) hO dX2_readAction_4 rfl rfl (by decide) hN ?_
  refine x_iload_n hO dX2_readAction_5 rfl rfl ?_
  refine x_if_ge (tgt := 11) hO dX2_readAction_6 (by decide) (fun c => ?_) (fun c => ?_)
  · have q := dgI_ge.mp c
    have hlt := isD_lt q
    rw [q] at hR
    simp only [if_true] at hR
    have e1 : dgI (sg (M 4) n p) = M 4 p - nI 48 := by unfold dgI; rw [q, if_pos rfl, sg_in hlt]
    rw [e1]
    refine x_aload_n hO dX2_readAction_11 rfl rfl ?_
    refine x_dup hO dX2_readAction_12 ?_
    refine x_getI (T := TX2) (j := 2) hO dX2_readAction_13 flX2_19 (by decide) rfl rfl (by decide) rfl rfl ?_
    rw [h2]
    refine x_iconst (v := nI 1) hO dX2_readAction_16 rfl ?_
    refine x_iadd hO dX2_readAction_17 ?_
    rw [nI_add]
    refine x_put (T := TX2) (j := 2) (ty := .int) hO dX2_readAction_18 flX2_19 (by decide) rfl rfl (by decide) rfl rfl rfl (by decide +kernel) rfl rfl ?_
    refine x_iload_n hO dX2_readAction_21 rfl rfl ?_
    refine x_if_lt (tgt := 37) hO dX2_readAction_22 (by decide) (fun c1 => ?_) (fun c1 => ?_)
    · exact absurd c1 (nI_pos (by omega))
    · refine x_iload_n hO dX2_readAction_25 rfl rfl ?_
      refine x_iconst (v := nI 5) hO dX2_readAction_26 rfl ?_
      refine x_icmp_ge (tgt := 37) hO dX2_readAction_27 (by decide) (fun c2 => ?_) (fun c2 => ?_)
      · exact absurd c2 (nI_ge hr (by decide))
      · refine x_aload_n hO dX2_readAction_30 rfl rfl ?_
        refine x_getR (T := TX2) (j := 7) hO dX2_readAction_31 flX2_34 (by decide) rfl rfl (by decide) rfl rfl ?_
        refine x_iload_n hO dX2_readAction_34 rfl rfl ?_
        refine x_iload_n hO dX2_readAction_35 rfl rfl ?_
        refine x_iast hO (by decide) rfl (by decide) (rfl) (hr) dX2_readAction_36 ?_
        refine x_iconst (v := nI 1) hO dX2_readAction_37 rfl ?_
        refine x_iret hO hR dX2_readAction_38 rfl ?_
        refine ⟨rfl, ?_, fun _ => ?_, fun k n3 n7 => ?_⟩
        · rw [xset_ne _ _ _ (by decide), xset_same]
        · rw [xset_same, xset_ne _ _ _ (by decide)]
        · rw [xset_ne _ _ _ n7, xset_ne _ _ _ n3]
  · have q := dgI_neg.mp (Int32.not_le.mp c)
    rw [q] at hR
    simp only [if_false, Bool.false_eq_true] at hR
    refine x_iconst (v := nI 0) hO dX2_readAction_9 rfl ?_
    refine x_iret hO hR dX2_readAction_10 rfl ?_
    exact ⟨rfl, u0.symm, fun z => absurd z (by simp), fun k _ _ => rfl⟩
