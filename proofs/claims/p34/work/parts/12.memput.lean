/-! ===== what a memory's rows are behind a change ===== -/
theorem xset_at (M : xM) (k j : Nat) (x : Int32) (a b : Nat) : xset M k j x a b = if a = k then (if b = j then x else M a b) else M a b := by
  unfold xset xup upd
  split
  · rename_i h; subst h; rfl
  · rfl
theorem all7 {P : Nat → Prop} (h0 : P 0) (h1 : P 1) (h2 : P 2) (h3 : P 3) (h4 : P 4) (h5 : P 5) (h6 : P 6) : ∀ w, w < 7 → P w := by
  intro w hw
  match w, hw with
  | 0, _ => exact h0
  | 1, _ => exact h1
  | 2, _ => exact h2
  | 3, _ => exact h3
  | 4, _ => exact h4
  | 5, _ => exact h5
  | 6, _ => exact h6
theorem cA_row {M M' : xM} {b b' s t : Nat} (hs : s < 32) (ht : t < 32) (h : ∀ w, w < 7 → M' (b' + 1 + w) s = M (b + 1 + w) t) : cA M' b' s = cA M b t := by
  have h0 : M' (b' + 1) s = M (b + 1) t := h 0 (by decide)
  have h1 : M' (b' + 2) s = M (b + 2) t := h 1 (by decide)
  have h6 : M' (b' + 7) s = M (b + 7) t := h 6 (by decide)
  funext w
  unfold cA occ
  rw [h0, h1, h6, decide_eq_true hs, decide_eq_true ht]
  split
  · split
    · rename_i hw
      exact h w (by omega)
    · rfl
  · rfl
theorem cA_free {M : xM} {b s : Nat} (h : M (b + 1) s = -1) : cA M b s = eR := by
  funext w
  unfold cA occ
  rw [h]
  simp
theorem cA_ge {M : xM} {b s : Nat} (h : 32 ≤ s) : cA M b s = eR := by
  funext w
  unfold cA occ
  rw [decide_eq_false (by omega)]
  simp
theorem cA_ext {M : xM} {b : Nat} {A : aR} (h : ∀ s, s < 32 → cA M b s = A s) (h2 : ∀ s, 32 ≤ s → A s = eR) : cA M b = A := by
  funext s
  rcases Nat.lt_or_ge s 32 with q | q
  · exact h s q
  · rw [cA_ge q, h2 s q]
theorem cA_none {M : xM} {b s : Nat} (h : aoc (cA M b) s = false) : cA M b s = eR := by
  rw [cA_oc] at h
  funext w
  unfold cA
  rw [h]
  rfl
theorem aoc_eR {A : aR} {s : Nat} (h : A s = eR) : aoc A s = false := by unfold aoc; rw [h]; rfl
/-- the memory now has the rows A' and the numbers g', and nothing else has changed -/
def mSt (M M' : xM) (A' : aR) (g' : Nat → Int32) : Prop := cA M' 16 = A' ∧ M' 16 = g' ∧ ∀ k, (k < 16 ∨ 24 ≤ k) → M' k = M k
theorem mSt.rf (M : xM) : mSt M M (cA M 16) (M 16) := ⟨rfl, rfl, fun _ _ => rfl⟩
theorem mSt.tr {M M1 M2 : xM} {A1 A2 : aR} {g1 g2 : Nat → Int32} (h1 : mSt M M1 A1 g1) (h2 : mSt M1 M2 A2 g2) : mSt M M2 A2 g2 := ⟨h2.1, h2.2.1, fun k hk => by rw [h2.2.2 k hk, h1.2.2 k hk]⟩
theorem mSt.num {M : xM} (j : Nat) (hj : 7 ≤ j) (x : Int32) : mSt M (xset M 16 j x) (cA M 16) (upd (M 16) j x) := by
  refine ⟨?_, ?_, fun k hk => ?_⟩
  · refine cA_ext (fun s hs => cA_row hs hs (fun w hw => ?_)) (fun s hs => cA_ge hs)
    rw [xset_at, if_neg (by omega)]
  · funext a
    rw [xset_at, if_pos rfl]
    rfl
  · funext a
    rw [xset_at, if_neg (by omega)]
/-! ===== Memory.moveEntry ===== -/
def aMv (A : aR) (i j : Nat) : aR := fun s => if i = j then A s else if s = i then eR else if s = j then A i else A s
theorem k_moveEntry (U : xP) (M : xM) {i j : Nat} (hi : i < 32) (hj : j < 32) : xMetV U mX1_moveEntry [.inr 16, .inl (nI i), .inl (nI j)] M (fun M' => mSt M M' (aMv (cA M 16) i j) (M 16)) := by
  refine xMetV.of (L := [some (.inr 16), some (.inl (nI i)), some (.inl (nI j))]) fX1_moveEntry rfl rfl (Nat.le_of_ble_eq_true rfl) (fun G hN hO hR => ?_)
  have hN : G.2.2.2.2.2.2.2.2.2.2.1 = 3 := hN
  have hO : xOK U G RX1 cX1_moveEntry 1 := hO
  refine x_iload_n hO dX1_moveEntry_0 rfl rfl ?_
  refine x_iload_n hO dX1_moveEntry_1 rfl rfl ?_
  refine x_icmp_eq (tgt := 19) hO dX1_moveEntry_2 (by decide) (fun c => ?_) (fun c => ?_)
  · have q : i = j := (nI_eq (by omega) (by omega)).mp c
    refine x_vret hO hR dX1_moveEntry_19 ?_
    have e : aMv (cA M 16) i j = cA M 16 := by funext s; simp [aMv, q]
    rw [e]
    exact mSt.rf M
  · have q : ¬ i = j := fun q => c (by rw [q])
    refine x_iload_n hO dX1_moveEntry_5 rfl rfl ?_
    refine x_callSN1 hO (k_isSlot U M (nI i)) dX1_moveEntry_6 lkX1_49 fX3_isSlot sX3_isSlot rfl rfl (by decide) (Nat.le_of_ble_eq_true rfl) ?_
    rw [ixB_n hi (by decide)]
    refine x_if_eq (tgt := 19) hO dX1_moveEntry_9 (by decide) (fun c1 => ?_) (fun c1 => ?_)
    · exact absurd c1 (by decide)
    · refine x_iload_n hO dX1_moveEntry_12 rfl rfl ?_
      refine x_callSN1 hO (k_isSlot U M (nI j)) dX1_moveEntry_13 lkX1_49 fX3_isSlot sX3_isSlot rfl rfl (by decide) (Nat.le_of_ble_eq_true rfl) ?_
      rw [ixB_n hj (by decide)]
      refine x_if_ne (tgt := 20) hO dX1_moveEntry_16 (by decide) (fun c2 => ?_) (fun c2 => ?_)
      · refine x_aload_n hO dX1_moveEntry_20 rfl rfl ?_
        refine x_getR (T := TX1) (j := 0) hO dX1_moveEntry_21 flX1_9 (by decide) rfl rfl (by decide) rfl rfl ?_
        refine x_iload_n hO dX1_moveEntry_24 rfl rfl ?_
        refine x_aload_n hO dX1_moveEntry_25 rfl rfl ?_
        refine x_getR (T := TX1) (j := 0) hO dX1_moveEntry_26 flX1_9 (by decide) rfl rfl (by decide) rfl rfl ?_
        refine x_iload_n hO dX1_moveEntry_29 rfl rfl ?_
        refine x_iald hO (by decide) rfl (by decide) (rfl) (hi) dX1_moveEntry_30 ?_
        refine x_iast hO (by decide) rfl (by decide) (rfl) (hj) dX1_moveEntry_31 ?_
        refine x_aload_n hO dX1_moveEntry_32 rfl rfl ?_
        refine x_getR (T := TX1) (j := 1) hO dX1_moveEntry_33 flX1_15 (by decide) rfl rfl (by decide) rfl rfl ?_
        refine x_iload_n hO dX1_moveEntry_36 rfl rfl ?_
        refine x_aload_n hO dX1_moveEntry_37 rfl rfl ?_
        refine x_getR (T := TX1) (j := 1) hO dX1_moveEntry_38 flX1_15 (by decide) rfl rfl (by decide) rfl rfl ?_
        refine x_iload_n hO dX1_moveEntry_41 rfl rfl ?_
        refine x_iald hO (by decide) rfl (by decide) (rfl) (hi) dX1_moveEntry_42 ?_
        refine x_iast hO (by decide) rfl (by decide) (rfl) (hj) dX1_moveEntry_43 ?_
        refine x_aload_n hO dX1_moveEntry_44 rfl rfl ?_
        refine x_getR (T := TX1) (j := 2) hO dX1_moveEntry_45 flX1_18 (by decide) rfl rfl (by decide) rfl rfl ?_
        refine x_iload_n hO dX1_moveEntry_48 rfl rfl ?_
        refine x_aload_n hO dX1_moveEntry_49 rfl rfl ?_
        refine x_getR (T := TX1) (j := 2) hO dX1_moveEntry_50 flX1_18 (by decide) rfl rfl (by decide) rfl rfl ?_
        refine x_iload_n hO dX1_moveEntry_53 rfl rfl ?_
        refine x_iald hO (by decide) rfl (by decide) (rfl) (hi) dX1_moveEntry_54 ?_
        refine x_iast hO (by decide) rfl (by decide) (rfl) (hj) dX1_moveEntry_55 ?_
        refine x_aload_n hO dX1_moveEntry_56 rfl rfl ?_
        refine x_getR (T := TX1) (j := 3) hO dX1_moveEntry_57 flX1_21 (by decide) rfl rfl (by decide) rfl rfl ?_
        refine x_iload_n hO dX1_moveEntry_60 rfl rfl ?_
        refine x_aload_n hO dX1_moveEntry_61 rfl rfl ?_
        refine x_getR (T := TX1) (j := 3) hO dX1_moveEntry_62 flX1_21 (by decide) rfl rfl (by decide) rfl rfl ?_
        refine x_iload_n hO dX1_moveEntry_65 rfl rfl ?_
        refine x_iald hO (by decide) rfl (by decide) (rfl) (hi) dX1_moveEntry_66 ?_
        refine x_iast hO (by decide) rfl (by decide) (rfl) (hj) dX1_moveEntry_67 ?_
        refine x_aload_n hO dX1_moveEntry_68 rfl rfl ?_
        refine x_getR (T := TX1) (j := 4) hO dX1_moveEntry_69 flX1_24 (by decide) rfl rfl (by decide) rfl rfl ?_
        refine x_iload_n hO dX1_moveEntry_72 rfl rfl ?_
        refine x_aload_n hO dX1_moveEntry_73 rfl rfl ?_
        refine x_getR (T := TX1) (j := 4) hO dX1_moveEntry_74 flX1_24 (by decide) rfl rfl (by decide) rfl rfl ?_
        refine x_iload_n hO dX1_moveEntry_77 rfl rfl ?_
        refine x_iald hO (by decide) rfl (by decide) (rfl) (hi) dX1_moveEntry_78 ?_
        refine x_iast hO (by decide) rfl (by decide) (rfl) (hj) dX1_moveEntry_79 ?_
        refine x_aload_n hO dX1_moveEntry_80 rfl rfl ?_
        refine x_getR (T := TX1) (j := 5) hO dX1_moveEntry_81 flX1_27 (by decide) rfl rfl (by decide) rfl rfl ?_
        refine x_iload_n hO dX1_moveEntry_84 rfl rfl ?_
        refine x_aload_n hO dX1_moveEntry_85 rfl rfl ?_
        refine x_getR (T := TX1) (j := 5) hO dX1_moveEntry_86 flX1_27 (by decide) rfl rfl (by decide) rfl rfl ?_
        refine x_iload_n hO dX1_moveEntry_89 rfl rfl ?_
        refine x_iald hO (by decide) rfl (by decide) (rfl) (hi) dX1_moveEntry_90 ?_
        refine x_iast hO (by decide) rfl (by decide) (rfl) (hj) dX1_moveEntry_91 ?_
        refine x_aload_n hO dX1_moveEntry_92 rfl rfl ?_
        refine x_getR (T := TX1) (j := 6) hO dX1_moveEntry_93 flX1_30 (by decide) rfl rfl (by decide) rfl rfl ?_
        refine x_iload_n hO dX1_moveEntry_96 rfl rfl ?_
        refine x_aload_n hO dX1_moveEntry_97 rfl rfl ?_
        refine x_getR (T := TX1) (j := 6) hO dX1_moveEntry_98 flX1_30 (by decide) rfl rfl (by decide) rfl rfl ?_
        refine x_iload_n hO dX1_moveEntry_101 rfl rfl ?_
        refine x_iald hO (by decide) rfl (by decide) (rfl) (hi) dX1_moveEntry_102 ?_
        refine x_iast hO (by decide) rfl (by decide) (rfl) (hj) dX1_moveEntry_103 ?_
        refine x_aload_n hO dX1_moveEntry_104 rfl rfl ?_
        refine x_getR (T := TX1) (j := 0) hO dX1_moveEntry_105 flX1_9 (by decide) rfl rfl (by decide) rfl rfl ?_
        refine x_iload_n hO dX1_moveEntry_108 rfl rfl ?_
        refine x_iconst (v := (-1 : Int32)) hO dX1_moveEntry_109 rfl ?_
        refine x_iast hO (by decide) rfl (by decide) (rfl) (hi) dX1_moveEntry_110 ?_
        refine x_vret hO hR dX1_moveEntry_111 ?_
        refine ⟨cA_ext (fun s hs => ?_) (fun s hs => ?_), ?_, fun k hk => ?_⟩
        · unfold aMv
          rw [if_neg q]
          split
          · rename_i e
            subst e
            refine cA_free ?_
            simp [xset_at]
          · rename_i e
            split
            · rename_i e2
              subst e2
              refine cA_row hs hi (all7 ?_ ?_ ?_ ?_ ?_ ?_ ?_) <;> simp [xset_at, q, e]
            · rename_i e2
              refine cA_row hs hs (all7 ?_ ?_ ?_ ?_ ?_ ?_ ?_) <;> simp [xset_at, e, e2]
        · unfold aMv
          rw [if_neg q, if_neg (by omega), if_neg (by omega), cA_ge hs]
        · funext a
          simp [xset_at]
        · funext a
          have h17 : ¬ k = 17 := by omega
          have h18 : ¬ k = 18 := by omega
          have h19 : ¬ k = 19 := by omega
          have h20 : ¬ k = 20 := by omega
          have h21 : ¬ k = 21 := by omega
          have h22 : ¬ k = 22 := by omega
          have h23 : ¬ k = 23 := by omega
          simp [xset_at, h17, h18, h19, h20, h21, h22, h23]
      · exact absurd c2 (by decide)
/-! ===== Memory.moveUp, moveDown ===== -/
/-- the rows b to b + n - 1 are one slot further, those that have moved: from b + k on -/
def aUp (A : aR) (b n k : Nat) : aR := fun s => if b + k < s ∧ s ≤ b + n then A (s - 1) else if s = b + k ∧ k < n then eR else A s
theorem aUp_0 (A : aR) (b n : Nat) : aUp A b n n = A := by
  funext s
  unfold aUp
  rw [if_neg (by omega), if_neg (by omega)]
theorem aUp_s (A : aR) (b n k : Nat) (hk : k < n) : aMv (aUp A b n (k + 1)) (b + k) (b + k + 1) = aUp A b n k := by
  funext s
  unfold aMv aUp
  rw [if_neg (by omega)]
  by_cases e1 : s = b + k
  · rw [if_pos e1, if_neg (by omega), if_pos ⟨e1, hk⟩]
  · rw [if_neg e1]
    by_cases e2 : s = b + k + 1
    · rw [if_pos e2, if_neg (by omega), if_neg (by omega), if_pos (by omega)]
      congr 1
      omega
    · rw [if_neg e2]
      by_cases e3 : b + k < s ∧ s ≤ b + n
      · rw [if_pos (by omega), if_pos e3]
      · rw [if_neg (by omega), if_neg (by omega), if_neg e3, if_neg (by omega)]
theorem nI_sub1 (k : Nat) : nI (k + 1) - nI 1 = nI k := pk_sub (a := k + 1) (by omega)
theorem k_moveUp (U : xP) (M : xM) {b n : Nat} (h : b + n < 32) : xMetV U mX1_moveUp [.inr 16, .inl (nI b), .inl (nI n)] M (fun M' => mSt M M' (aUp (cA M 16) b n 0) (upd (M 16) 9 (M 16 9 + nI n))) := by
  refine xMetV.of (L := [some (.inr 16), some (.inl (nI b)), some (.inl (nI n)), none]) fX1_moveUp rfl rfl (Nat.le_of_ble_eq_true rfl) (fun G hN hO hR => ?_)
  have hN : G.2.2.2.2.2.2.2.2.2.2.1 = 4 := hN
  have hO : xOK U G RX1 cX1_moveUp 2 := hO
  refine x_iload_n hO dX1_moveUp_0 rfl rfl ?_
  refine x_iload_n hO dX1_moveUp_1 rfl rfl ?_
  refine x_iadd hO dX1_moveUp_2 ?_
  rw [nI_add]
  refine x_istore_n (n := 4) hO dX1_moveUp_3 rfl rfl (by decide) hN ?_
  have loop : ∀ k, k ≤ n → ∀ M1, mSt M M1 (aUp (cA M 16) b n k) (M 16) → XW U G 4 [some (.inr 16), some (.inl (nI b)), some (.inl (nI n)), some (.inl (nI (b + k)))] [] M1 := by
    intro k
    induction k with
    | zero =>
      intro _ M1 h1
      refine x_iload_n hO dX1_moveUp_4 rfl rfl ?_
      refine x_iload_n hO dX1_moveUp_5 rfl rfl ?_
      refine x_icmp_le (tgt := 23) hO dX1_moveUp_6 (by decide) (fun c => ?_) (fun c => ?_)
      · refine x_aload_n hO dX1_moveUp_23 rfl rfl ?_
        refine x_dup hO dX1_moveUp_24 ?_
        refine x_getI (T := TX1) (j := 9) hO dX1_moveUp_25 flX1_40 (by decide) rfl rfl (by decide) rfl rfl ?_
        refine x_iload_n hO dX1_moveUp_28 rfl rfl ?_
        refine x_iadd hO dX1_moveUp_29 ?_
        refine x_put (T := TX1) (j := 9) (ty := .int) hO dX1_moveUp_30 flX1_40 (by decide) rfl rfl (by decide) rfl rfl rfl (by decide +kernel) rfl rfl ?_
        refine x_vret hO hR dX1_moveUp_33 ?_
        have e : M1 16 9 = M 16 9 := by rw [h1.2.1]
        rw [e]
        have h2 := mSt.tr h1 (mSt.num (M := M1) 9 (by decide) (M 16 9 + nI n))
        rw [h1.1, h1.2.1] at h2
        exact h2
      · exact absurd (Int32.le_refl _) c
    | succ k ih =>
      intro hk M1 h1
      refine x_iload_n hO dX1_moveUp_4 rfl rfl ?_
      refine x_iload_n hO dX1_moveUp_5 rfl rfl ?_
      refine x_icmp_le (tgt := 23) hO dX1_moveUp_6 (by decide) (fun c => ?_) (fun c => ?_)
      · exact absurd c (nI_ge (by omega) (by omega))
      · refine x_aload_n hO dX1_moveUp_9 rfl rfl ?_
        refine x_iload_n hO dX1_moveUp_10 rfl rfl ?_
        refine x_iconst (v := nI 1) hO dX1_moveUp_11 rfl ?_
        refine x_isub hO dX1_moveUp_12 ?_
        rw [show b + (k + 1) = b + k + 1 from rfl, nI_sub1]
        refine x_iload_n hO dX1_moveUp_13 rfl rfl ?_
        refine x_callVv hO (k_moveEntry U M1 (i := b + k) (j := b + k + 1) (by omega) (by omega)) dX1_moveUp_14 lkX1_102 fX1_moveEntry vX1_moveEntry (by decide) rfl rfl rfl rfl rfl (by decide) (Nat.le_of_ble_eq_true rfl) (fun M' h2 => ?_)
        have h3 := mSt.tr h1 h2
        rw [h1.1, h1.2.1, aUp_s _ _ _ _ (by omega)] at h3
        refine x_iinc hO dX1_moveUp_17 rfl (by first | exact xdec_n _ | rfl) rfl hN ?_
        refine x_goto (tgt := 4) hO dX1_moveUp_20 (by decide) ?_
        exact ih (by omega) M' h3
  exact loop n (Nat.le_refl _) M (by rw [aUp_0]; exact mSt.rf M)
/-- the rows l - n + 1 to l are one slot lower, the first k of them have moved -/
def aDn (A : aR) (l n k : Nat) : aR := fun s => if l - n ≤ s ∧ s < l - n + k then A (s + 1) else if s = l - n + k ∧ 0 < k then eR else A s
theorem aDn_0 (A : aR) (l n : Nat) : aDn A l n 0 = A := by
  funext s
  unfold aDn
  rw [if_neg (by omega), if_neg (by omega)]
theorem aDn_s (A : aR) (l n k : Nat) : aMv (aDn A l n k) (l - n + k + 1) (l - n + k) = aDn A l n (k + 1) := by
  funext s
  unfold aMv aDn
  rw [if_neg (by omega)]
  by_cases e1 : s = l - n + k + 1
  · rw [if_pos e1, if_neg (by omega), if_pos (by omega)]
  · rw [if_neg e1]
    by_cases e2 : s = l - n + k
    · rw [if_pos e2, if_neg (by omega), if_neg (by omega), if_pos (by omega)]
      congr 1
      omega
    · rw [if_neg e2]
      by_cases e3 : l - n ≤ s ∧ s < l - n + k
      · rw [if_pos e3, if_pos (by omega)]
      · rw [if_neg e3, if_neg (by omega), if_neg (by omega), if_neg (by omega)]
theorem k_moveDown (U : xP) (M : xM) {l n : Nat} (hl : l < 32) (hn : n ≤ l) : xMetV U mX1_moveDown [.inr 16, .inl (nI l), .inl (nI n)] M (fun M' => mSt M M' (aDn (cA M 16) l n n) (upd (M 16) 9 (M 16 9 + nI n))) := by
  refine xMetV.of (L := [some (.inr 16), some (.inl (nI l)), some (.inl (nI n)), none]) fX1_moveDown rfl rfl (Nat.le_of_ble_eq_true rfl) (fun G hN hO hR => ?_)
  have hN : G.2.2.2.2.2.2.2.2.2.2.1 = 4 := hN
  have hO : xOK U G RX1 cX1_moveDown 2 := hO
  refine x_iload_n hO dX1_moveDown_0 rfl rfl ?_
  refine x_iload_n hO dX1_moveDown_1 rfl rfl ?_
  refine x_isub hO dX1_moveDown_2 ?_
  rw [pk_sub hn]
  refine x_istore_n (n := 4) hO dX1_moveDown_3 rfl rfl (by decide) hN ?_
  refine upd_ind (P := fun k _ => ∀ M1, mSt M M1 (aDn (cA M 16) l n k) (M 16) → XW U G 4 [some (.inr 16), some (.inl (nI l)), some (.inl (nI n)), some (.inl (nI (l - n + k)))] [] M1) n ?_ ?_ n 0 (by omega) M (by rw [aDn_0]; exact mSt.rf M)
  · intro M1 h1
    refine x_iload_n hO dX1_moveDown_4 rfl rfl ?_
    refine x_iload_n hO dX1_moveDown_5 rfl rfl ?_
    refine x_icmp_ge (tgt := 23) hO dX1_moveDown_6 (by decide) (fun c => ?_) (fun c => ?_)
    · refine x_aload_n hO dX1_moveDown_23 rfl rfl ?_
      refine x_dup hO dX1_moveDown_24 ?_
      refine x_getI (T := TX1) (j := 9) hO dX1_moveDown_25 flX1_40 (by decide) rfl rfl (by decide) rfl rfl ?_
      refine x_iload_n hO dX1_moveDown_28 rfl rfl ?_
      refine x_iadd hO dX1_moveDown_29 ?_
      refine x_put (T := TX1) (j := 9) (ty := .int) hO dX1_moveDown_30 flX1_40 (by decide) rfl rfl (by decide) rfl rfl rfl (by decide +kernel) rfl rfl ?_
      refine x_vret hO hR dX1_moveDown_33 ?_
      have e : M1 16 9 = M 16 9 := by rw [h1.2.1]
      rw [e]
      have h2 := mSt.tr h1 (mSt.num (M := M1) 9 (by decide) (M 16 9 + nI n))
      rw [h1.1, h1.2.1] at h2
      exact h2
    · exact absurd (nI_le (by omega) (by omega)) c
  · intro k d hd ih M1 h1
    refine x_iload_n hO dX1_moveDown_4 rfl rfl ?_
    refine x_iload_n hO dX1_moveDown_5 rfl rfl ?_
    refine x_icmp_ge (tgt := 23) hO dX1_moveDown_6 (by decide) (fun c => ?_) (fun c => ?_)
    · exact absurd c (nI_ge (by omega) (by omega))
    · refine x_aload_n hO dX1_moveDown_9 rfl rfl ?_
      refine x_iload_n hO dX1_moveDown_10 rfl rfl ?_
      refine x_iconst (v := nI 1) hO dX1_moveDown_11 rfl ?_
      refine x_iadd hO dX1_moveDown_12 ?_
      rw [nI_add]
      refine x_iload_n hO dX1_moveDown_13 rfl rfl ?_
      refine x_callVv hO (k_moveEntry U M1 (i := l - n + k + 1) (j := l - n + k) (by omega) (by omega)) dX1_moveDown_14 lkX1_102 fX1_moveEntry vX1_moveEntry (by decide) rfl rfl rfl rfl rfl (by decide) (Nat.le_of_ble_eq_true rfl) (fun M' h2 => ?_)
      have h3 := mSt.tr h1 h2
      rw [h1.1, h1.2.1, aDn_s] at h3
      refine x_iinc hO dX1_moveDown_17 rfl (by first | exact xinc_n _ | rfl) rfl hN ?_
      refine x_goto (tgt := 4) hO dX1_moveDown_20 (by decide) ?_
      exact ih M' h3
/-! ===== Memory.fill ===== -/
def rowOf (r p m v k a : Int32) : Nat → Int32 := fun w => match w with
  | 0 => r
  | 1 => p
  | 2 => m
  | 3 => v &&& m
  | 4 => k
  | 5 => a
  | _ => 0
theorem k_fill (U : xP) (M : xM) {j : Nat} (hj : j < 32) (r p m v k a : Int32) (hr : r ≠ -1) : xMetV U mX1_fill [.inr 16, .inl (nI j), .inl r, .inl p, .inl m, .inl v, .inl k, .inl a] M (fun M' => mSt M M' (fun s => if s = j then rowOf r p m v k a else cA M 16 s) (M 16)) := by
  refine xMetV.of (L := [some (.inr 16), some (.inl (nI j)), some (.inl r), some (.inl p), some (.inl m), some (.inl v), some (.inl k), some (.inl a)]) fX1_fill rfl rfl (Nat.le_of_ble_eq_true rfl) (fun G hN hO hR => ?_)
  have hN : G.2.2.2.2.2.2.2.2.2.2.1 = 8 := hN
  have hO : xOK U G RX1 cX1_fill 1 := hO
  refine x_iload_n hO dX1_fill_0 rfl rfl ?_
  refine x_callSN1 hO (k_isSlot U M (nI j)) dX1_fill_1 lkX1_49 fX3_isSlot sX3_isSlot rfl rfl (by decide) (Nat.le_of_ble_eq_true rfl) ?_
  rw [ixB_n hj (by decide)]
  refine x_if_ne (tgt := 8) hO dX1_fill_4 (by decide) (fun c => ?_) (fun c => ?_)
  · refine x_aload_n hO dX1_fill_8 rfl rfl ?_
    refine x_getR (T := TX1) (j := 0) hO dX1_fill_9 flX1_9 (by decide) rfl rfl (by decide) rfl rfl ?_
    refine x_iload_n hO dX1_fill_12 rfl rfl ?_
    refine x_iload_n hO dX1_fill_13 rfl rfl ?_
    refine x_iast hO (by decide) rfl (by decide) (rfl) (hj) dX1_fill_14 ?_
    refine x_aload_n hO dX1_fill_15 rfl rfl ?_
    refine x_getR (T := TX1) (j := 1) hO dX1_fill_16 flX1_15 (by decide) rfl rfl (by decide) rfl rfl ?_
    refine x_iload_n hO dX1_fill_19 rfl rfl ?_
    refine x_iload_n hO dX1_fill_20 rfl rfl ?_
    refine x_iast hO (by decide) rfl (by decide) (rfl) (hj) dX1_fill_21 ?_
    refine x_aload_n hO dX1_fill_22 rfl rfl ?_
    refine x_getR (T := TX1) (j := 2) hO dX1_fill_23 flX1_18 (by decide) rfl rfl (by decide) rfl rfl ?_
    refine x_iload_n hO dX1_fill_26 rfl rfl ?_
    refine x_iload hO dX1_fill_27 rfl ?_
    refine x_iast hO (by decide) rfl (by decide) (rfl) (hj) dX1_fill_29 ?_
    refine x_aload_n hO dX1_fill_30 rfl rfl ?_
    refine x_getR (T := TX1) (j := 3) hO dX1_fill_31 flX1_21 (by decide) rfl rfl (by decide) rfl rfl ?_
    refine x_iload_n hO dX1_fill_34 rfl rfl ?_
    refine x_iload hO dX1_fill_35 rfl ?_
    refine x_iload hO dX1_fill_37 rfl ?_
    refine x_iand hO dX1_fill_39 ?_
    refine x_iast hO (by decide) rfl (by decide) (rfl) (hj) dX1_fill_40 ?_
    refine x_aload_n hO dX1_fill_41 rfl rfl ?_
    refine x_getR (T := TX1) (j := 4) hO dX1_fill_42 flX1_24 (by decide) rfl rfl (by decide) rfl rfl ?_
    refine x_iload_n hO dX1_fill_45 rfl rfl ?_
    refine x_iload hO dX1_fill_46 rfl ?_
    refine x_iast hO (by decide) rfl (by decide) (rfl) (hj) dX1_fill_48 ?_
    refine x_aload_n hO dX1_fill_49 rfl rfl ?_
    refine x_getR (T := TX1) (j := 5) hO dX1_fill_50 flX1_27 (by decide) rfl rfl (by decide) rfl rfl ?_
    refine x_iload_n hO dX1_fill_53 rfl rfl ?_
    refine x_iload hO dX1_fill_54 rfl ?_
    refine x_iast hO (by decide) rfl (by decide) (rfl) (hj) dX1_fill_56 ?_
    refine x_aload_n hO dX1_fill_57 rfl rfl ?_
    refine x_getR (T := TX1) (j := 6) hO dX1_fill_58 flX1_30 (by decide) rfl rfl (by decide) rfl rfl ?_
    refine x_iload_n hO dX1_fill_61 rfl rfl ?_
    refine x_iconst (v := nI 0) hO dX1_fill_62 rfl ?_
    refine x_iast hO (by decide) rfl (by decide) (rfl) (hj) dX1_fill_63 ?_
    refine x_vret hO hR dX1_fill_64 ?_
    refine ⟨cA_ext (fun s hs => ?_) (fun s hs => ?_), ?_, fun k hk => ?_⟩
    · split
      · rename_i e
        subst e
        funext w
        have ho : (r == -1) = false := by simpa using hr
        unfold cA occ
        simp only [xset_at]
        simp only [hs, ho]
        match w with
        | 0 => simp [rowOf, hr]
        | 1 => simp [rowOf, hr]
        | 2 => simp [rowOf, hr]
        | 3 => simp [rowOf, hr]
        | 4 => simp [rowOf, hr]
        | 5 => simp [rowOf, hr]
        | w + 6 =>
          show _ = (0 : Int32)
          simp [hr]
          rw [if_neg (by omega)]
          split <;> rfl
      · rename_i e
        refine cA_row hs hs (all7 ?_ ?_ ?_ ?_ ?_ ?_ ?_) <;> simp [xset_at, e]
    · rw [if_neg (by omega), cA_ge hs]
    · funext a
      simp [xset_at]
    · funext a
      have h17 : ¬ k = 17 := by omega
      have h18 : ¬ k = 18 := by omega
      have h19 : ¬ k = 19 := by omega
      have h20 : ¬ k = 20 := by omega
      have h21 : ¬ k = 21 := by omega
      have h22 : ¬ k = 22 := by omega
      have h23 : ¬ k = 23 := by omega
      simp [xset_at, h17, h18, h19, h20, h21, h22, h23]
  · exact absurd c (by decide)
/-! ===== Memory.dropEntriesOf ===== -/
def aDrop (A : aR) (x : Int32) : aR := fun s => if A s 0 = x then eR else A s
def dropM (M : xM) (x : Int32) (i : Nat) : xM := fun k s => if k = 17 ∧ s < i ∧ M 17 s = x then -1 else M k s
theorem k_dropEntriesOf (U : xP) (M : xM) (x : Int32) : xMetV U mX1_dropEntriesOf [.inr 16, .inl x] M (fun M' => mSt M M' (aDrop (cA M 16) x) (M 16)) := by
  refine xMetV.of (L := [some (.inr 16), some (.inl x), none]) fX1_dropEntriesOf rfl rfl (Nat.le_of_ble_eq_true rfl) (fun G hN hO hR => ?_)
  have hN : G.2.2.2.2.2.2.2.2.2.2.1 = 3 := hN
  have hO : xOK U G RX1 cX1_dropEntriesOf 0 := hO
  refine x_iconst (v := nI 0) hO dX1_dropEntriesOf_0 rfl ?_
  refine x_istore_n (n := 3) hO dX1_dropEntriesOf_1 rfl rfl (by decide) hN ?_
  have e0 : dropM M x 0 = M := by funext k s; simp [dropM]
  have h0 := upd_ind (P := fun i _ => XW U G 2 [some (.inr 16), some (.inl x), some (.inl (nI i))] [] (dropM M x i)) 32 ?_ ?_ 32 0 rfl
  · rw [e0] at h0
    exact h0
  · refine x_iload_n hO dX1_dropEntriesOf_2 rfl rfl ?_
    refine x_bipush (v := nI 32) hO dX1_dropEntriesOf_3 rfl ?_
    refine x_icmp_ge (tgt := 31) hO dX1_dropEntriesOf_5 (by decide) (fun c => ?_) (fun c => ?_)
    · refine x_vret hO hR dX1_dropEntriesOf_31 ?_
      refine ⟨cA_ext (fun s hs => ?_) (fun s hs => ?_), ?_, fun k hk => ?_⟩
      · unfold aDrop
        by_cases e : M 17 s = x
        · have e1 : cA (dropM M x 32) 16 s = eR := cA_free (by simp [dropM, hs, e])
          rw [e1]
          split
          · rfl
          · rename_i q
            by_cases e2 : M 17 s = -1
            · rw [cA_free e2]
            · rw [e] at e2
              exact absurd (by unfold cA; simp [occ, hs, e2, e]) q
        · have e1 : cA (dropM M x 32) 16 s = cA M 16 s := cA_row hs hs (fun w hw => by simp [dropM, e])
          rw [e1]
          split
          · rename_i q
            by_cases e2 : M 17 s = -1
            · rw [cA_free e2]
            · exact absurd (by rw [← q]; unfold cA; simp [occ, hs, e2]) e
          · rfl
      · unfold aDrop
        rw [cA_ge hs]
        split <;> rfl
      · funext a
        simp [dropM]
      · funext a
        have h17 : ¬ k = 17 := by omega
        simp [dropM, h17]
    · exact absurd (Int32.le_refl _) c
  · intro i d hd ih
    have hi : i < 32 := by omega
    have er : dropM M x i 17 i = M 17 i := by simp [dropM]
    refine x_iload_n hO dX1_dropEntriesOf_2 rfl rfl ?_
    refine x_bipush (v := nI 32) hO dX1_dropEntriesOf_3 rfl ?_
    refine x_icmp_ge (tgt := 31) hO dX1_dropEntriesOf_5 (by decide) (fun c => ?_) (fun c => ?_)
    · exact absurd c (nI_ge hi (by decide))
    · refine x_aload_n hO dX1_dropEntriesOf_8 rfl rfl ?_
      refine x_getR (T := TX1) (j := 0) hO dX1_dropEntriesOf_9 flX1_9 (by decide) rfl rfl (by decide) rfl rfl ?_
      refine x_iload_n hO dX1_dropEntriesOf_12 rfl rfl ?_
      refine x_iald hO (by decide) rfl (by decide) (rfl) (hi) dX1_dropEntriesOf_13 ?_
      refine x_iload_n hO dX1_dropEntriesOf_14 rfl rfl ?_
      rw [er]
      refine x_icmp_ne (tgt := 25) hO dX1_dropEntriesOf_15 (by decide) (fun c2 => ?_) (fun c2 => ?_)
      · refine x_iinc hO dX1_dropEntriesOf_25 rfl (by first | exact xinc_n _ | rfl) rfl hN ?_
        refine x_goto (tgt := 2) hO dX1_dropEntriesOf_28 (by decide) ?_
        have e : dropM M x (i + 1) = dropM M x i := by
          funext k s
          unfold dropM
          by_cases q : s = i
          · subst q
            rw [if_neg (fun z => c2 z.2.2), if_neg (fun z => by omega)]
          · have : s < i + 1 ↔ s < i := by omega
            simp only [this]
        rw [e] at ih
        exact ih
      · refine x_aload_n hO dX1_dropEntriesOf_18 rfl rfl ?_
        refine x_getR (T := TX1) (j := 0) hO dX1_dropEntriesOf_19 flX1_9 (by decide) rfl rfl (by decide) rfl rfl ?_
        refine x_iload_n hO dX1_dropEntriesOf_22 rfl rfl ?_
        refine x_iconst (v := (-1 : Int32)) hO dX1_dropEntriesOf_23 rfl ?_
        refine x_iast hO (by decide) rfl (by decide) (rfl) (hi) dX1_dropEntriesOf_24 ?_
        refine x_iinc hO dX1_dropEntriesOf_25 rfl (by first | exact xinc_n _ | rfl) rfl hN ?_
        refine x_goto (tgt := 2) hO dX1_dropEntriesOf_28 (by decide) ?_
        have e : dropM M x (i + 1) = xset (dropM M x i) 17 i (-1) := by
          funext k s
          rw [xset_at]
          unfold dropM
          by_cases q : k = 17
          · subst q
            by_cases q2 : s = i
            · subst q2
              simp [c2]
            · have : s < i + 1 ↔ s < i := by omega
              simp [this, q2]
          · simp [q]
        rw [e] at ih
        exact ih
