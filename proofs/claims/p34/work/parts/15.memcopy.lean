/-! ===== Memory.copyFrom: the memory at p becomes as the one at q ===== -/
def cpSt (M M' : xM) (p q : Nat) : Prop := cA M' p = cA M q ∧ (∀ j, 7 ≤ j → j < 12 → M' p j = M q j) ∧ ∀ k, (k < p ∨ p + 8 ≤ k) → M' k = M k
def cpR (M M1 : xM) (p q i : Nat) : Prop := (∀ w, w < 7 → ∀ s, s < i → M1 (p + 1 + w) s = M (q + 1 + w) s) ∧ ∀ k, ¬ (p + 1 ≤ k ∧ k ≤ p + 7) → M1 k = M k
theorem cpR_s {M M1 M2 : xM} {p q i : Nat} (h : cpR M M1 p q i) (h1 : ∀ w, w < 7 → M2 (p + 1 + w) i = M (q + 1 + w) i) (h2 : ∀ w, w < 7 → ∀ s, s ≠ i → M2 (p + 1 + w) s = M1 (p + 1 + w) s) (h3 : ∀ k, ¬ (p + 1 ≤ k ∧ k ≤ p + 7) → M2 k = M1 k) : cpR M M2 p q (i + 1) := by
  refine ⟨fun w hw s hs => ?_, fun k hk => by rw [h3 k hk, h.2 k hk]⟩
  by_cases e : s = i
  · subst e; exact h1 w hw
  · rw [h2 w hw s e]
    exact h.1 w hw s (by omega)
theorem all5 {P : Nat → Prop} (h0 : P 7) (h1 : P 8) (h2 : P 9) (h3 : P 10) (h4 : P 11) : ∀ w, 7 ≤ w → w < 12 → P w := by
  intro w h h2
  obtain rfl | rfl | rfl | rfl | rfl : w = 7 ∨ w = 8 ∨ w = 9 ∨ w = 10 ∨ w = 11 := by omega
  all_goals assumption
theorem all7k {p : Nat} {P : Nat → Prop} (h : ∀ w, w < 7 → P (p + 1 + w)) : ∀ k, p + 1 ≤ k ∧ k ≤ p + 7 → P k := by
  intro k hk
  have := h (k - p - 1) (by omega)
  rwa [show p + 1 + (k - p - 1) = k by omega] at this
theorem k_copyFrom_16_24 (U : xP) (M : xM) : xMetV U mX1_copyFrom [.inr 16, .inr 24] M (fun M' => cpSt M M' 16 24) := by
  refine xMetV.of (L := [some (.inr 16), some (.inr 24), none]) fX1_copyFrom rfl rfl (Nat.le_of_ble_eq_true rfl) (fun G hN hO hR => ?_)
  have hN : G.2.2.2.2.2.2.2.2.2.2.1 = 3 := hN
  have hO : xOK U G RX1 cX1_copyFrom 0 := hO
  refine x_iconst (v := nI 0) hO dX1_copyFrom_0 rfl ?_
  refine x_istore_n (n := 3) hO dX1_copyFrom_1 rfl rfl (by decide) hN ?_
  refine upd_ind (P := fun i _ => ∀ M1, cpR M M1 16 24 i → XW U G 2 [some (.inr 16), some (.inr 24), some (.inl (nI i))] [] M1) 32 ?_ ?_ 32 0 rfl M ⟨fun w _ s hs => by omega, fun k _ => rfl⟩
  · intro M1 h1
    refine x_iload_n hO dX1_copyFrom_2 rfl rfl ?_
    refine x_bipush (v := nI 32) hO dX1_copyFrom_3 rfl ?_
    refine x_icmp_ge (tgt := 98) hO dX1_copyFrom_5 (by decide) (fun c => ?_) (fun c => ?_)
    · refine x_aload_n hO dX1_copyFrom_98 rfl rfl ?_
      refine x_aload_n hO dX1_copyFrom_99 rfl rfl ?_
      refine x_getI (T := TX1) (j := 7) hO dX1_copyFrom_100 flX1_33 (by decide) rfl rfl (by decide) rfl rfl ?_
      refine x_put (T := TX1) (j := 7) (ty := .int) hO dX1_copyFrom_103 flX1_33 (by decide) rfl rfl (by decide) rfl rfl rfl (by decide +kernel) rfl rfl ?_
      refine x_aload_n hO dX1_copyFrom_106 rfl rfl ?_
      refine x_aload_n hO dX1_copyFrom_107 rfl rfl ?_
      refine x_getI (T := TX1) (j := 8) hO dX1_copyFrom_108 flX1_37 (by decide) rfl rfl (by decide) rfl rfl ?_
      refine x_put (T := TX1) (j := 8) (ty := .int) hO dX1_copyFrom_111 flX1_37 (by decide) rfl rfl (by decide) rfl rfl rfl (by decide +kernel) rfl rfl ?_
      refine x_aload_n hO dX1_copyFrom_114 rfl rfl ?_
      refine x_aload_n hO dX1_copyFrom_115 rfl rfl ?_
      refine x_getI (T := TX1) (j := 9) hO dX1_copyFrom_116 flX1_40 (by decide) rfl rfl (by decide) rfl rfl ?_
      refine x_put (T := TX1) (j := 9) (ty := .int) hO dX1_copyFrom_119 flX1_40 (by decide) rfl rfl (by decide) rfl rfl rfl (by decide +kernel) rfl rfl ?_
      refine x_aload_n hO dX1_copyFrom_122 rfl rfl ?_
      refine x_aload_n hO dX1_copyFrom_123 rfl rfl ?_
      refine x_getI (T := TX1) (j := 10) hO dX1_copyFrom_124 flX1_43 (by decide) rfl rfl (by decide) rfl rfl ?_
      refine x_put (T := TX1) (j := 10) (ty := .int) hO dX1_copyFrom_127 flX1_43 (by decide) rfl rfl (by decide) rfl rfl rfl (by decide +kernel) rfl rfl ?_
      refine x_aload_n hO dX1_copyFrom_130 rfl rfl ?_
      refine x_aload_n hO dX1_copyFrom_131 rfl rfl ?_
      refine x_getI (T := TX1) (j := 11) hO dX1_copyFrom_132 flX1_46 (by decide) rfl rfl (by decide) rfl rfl ?_
      refine x_put (T := TX1) (j := 11) (ty := .int) hO dX1_copyFrom_135 flX1_46 (by decide) rfl rfl (by decide) rfl rfl rfl (by decide +kernel) rfl rfl ?_
      refine x_vret hO hR dX1_copyFrom_138 ?_
      have gp : M1 16 = M 16 := h1.2 _ (by omega)
      have gq : M1 24 = M 24 := h1.2 _ (by omega)
      refine ⟨cA_ext (fun s hs => ?_) (fun s hs => cA_ge hs), all5 ?_ ?_ ?_ ?_ ?_, fun k hk => ?_⟩
      · refine cA_row hs hs (fun w hw => ?_)
        have e := h1.1 w hw s hs
        have n0 : ¬ 16 + 1 + w = 16 := by omega
        simp only [xset_at, n0, if_false]
        exact e
      · simp [xset_at, gp, gq]
      · simp [xset_at, gp, gq]
      · simp [xset_at, gp, gq]
      · simp [xset_at, gp, gq]
      · simp [xset_at, gp, gq]
      · have n0 : ¬ k = 16 := by omega
        funext a
        simp only [xset_at, n0, if_false]
        rw [h1.2 k (by omega)]
    · exact absurd (Int32.le_refl _) c
  · intro i d hd ih M1 h1
    have hi : i < 32 := by omega
    have g25 : M1 25 = M 25 := h1.2 _ (by omega)
    have g26 : M1 26 = M 26 := h1.2 _ (by omega)
    have g27 : M1 27 = M 27 := h1.2 _ (by omega)
    have g28 : M1 28 = M 28 := h1.2 _ (by omega)
    have g29 : M1 29 = M 29 := h1.2 _ (by omega)
    have g30 : M1 30 = M 30 := h1.2 _ (by omega)
    have g31 : M1 31 = M 31 := h1.2 _ (by omega)
    refine x_iload_n hO dX1_copyFrom_2 rfl rfl ?_
    refine x_bipush (v := nI 32) hO dX1_copyFrom_3 rfl ?_
    refine x_icmp_ge (tgt := 98) hO dX1_copyFrom_5 (by decide) (fun c => ?_) (fun c => ?_)
    · exact absurd c (nI_ge hi (by decide))
    · refine x_aload_n hO dX1_copyFrom_8 rfl rfl ?_
      refine x_getR (T := TX1) (j := 0) hO dX1_copyFrom_9 flX1_9 (by decide) rfl rfl (by decide) rfl rfl ?_
      refine x_iload_n hO dX1_copyFrom_12 rfl rfl ?_
      refine x_aload_n hO dX1_copyFrom_13 rfl rfl ?_
      refine x_getR (T := TX1) (j := 0) hO dX1_copyFrom_14 flX1_9 (by decide) rfl rfl (by decide) rfl rfl ?_
      refine x_iload_n hO dX1_copyFrom_17 rfl rfl ?_
      refine x_iald hO (by decide) rfl (by decide) (rfl) (hi) dX1_copyFrom_18 ?_
      refine x_iast hO (by decide) rfl (by decide) (rfl) (hi) dX1_copyFrom_19 ?_
      refine x_aload_n hO dX1_copyFrom_20 rfl rfl ?_
      refine x_getR (T := TX1) (j := 1) hO dX1_copyFrom_21 flX1_15 (by decide) rfl rfl (by decide) rfl rfl ?_
      refine x_iload_n hO dX1_copyFrom_24 rfl rfl ?_
      refine x_aload_n hO dX1_copyFrom_25 rfl rfl ?_
      refine x_getR (T := TX1) (j := 1) hO dX1_copyFrom_26 flX1_15 (by decide) rfl rfl (by decide) rfl rfl ?_
      refine x_iload_n hO dX1_copyFrom_29 rfl rfl ?_
      refine x_iald hO (by decide) rfl (by decide) (rfl) (hi) dX1_copyFrom_30 ?_
      refine x_iast hO (by decide) rfl (by decide) (rfl) (hi) dX1_copyFrom_31 ?_
      refine x_aload_n hO dX1_copyFrom_32 rfl rfl ?_
      refine x_getR (T := TX1) (j := 2) hO dX1_copyFrom_33 flX1_18 (by decide) rfl rfl (by decide) rfl rfl ?_
      refine x_iload_n hO dX1_copyFrom_36 rfl rfl ?_
      refine x_aload_n hO dX1_copyFrom_37 rfl rfl ?_
      refine x_getR (T := TX1) (j := 2) hO dX1_copyFrom_38 flX1_18 (by decide) rfl rfl (by decide) rfl rfl ?_
      refine x_iload_n hO dX1_copyFrom_41 rfl rfl ?_
      refine x_iald hO (by decide) rfl (by decide) (rfl) (hi) dX1_copyFrom_42 ?_
      refine x_iast hO (by decide) rfl (by decide) (rfl) (hi) dX1_copyFrom_43 ?_
      refine x_aload_n hO dX1_copyFrom_44 rfl rfl ?_
      refine x_getR (T := TX1) (j := 3) hO dX1_copyFrom_45 flX1_21 (by decide) rfl rfl (by decide) rfl rfl ?_
      refine x_iload_n hO dX1_copyFrom_48 rfl rfl ?_
      refine x_aload_n hO dX1_copyFrom_49 rfl rfl ?_
      refine x_getR (T := TX1) (j := 3) hO dX1_copyFrom_50 flX1_21 (by decide) rfl rfl (by decide) rfl rfl ?_
      refine x_iload_n hO dX1_copyFrom_53 rfl rfl ?_
      refine x_iald hO (by decide) rfl (by decide) (rfl) (hi) dX1_copyFrom_54 ?_
      refine x_iast hO (by decide) rfl (by decide) (rfl) (hi) dX1_copyFrom_55 ?_
      refine x_aload_n hO dX1_copyFrom_56 rfl rfl ?_
      refine x_getR (T := TX1) (j := 4) hO dX1_copyFrom_57 flX1_24 (by decide) rfl rfl (by decide) rfl rfl ?_
      refine x_iload_n hO dX1_copyFrom_60 rfl rfl ?_
      refine x_aload_n hO dX1_copyFrom_61 rfl rfl ?_
      refine x_getR (T := TX1) (j := 4) hO dX1_copyFrom_62 flX1_24 (by decide) rfl rfl (by decide) rfl rfl ?_
      refine x_iload_n hO dX1_copyFrom_65 rfl rfl ?_
      refine x_iald hO (by decide) rfl (by decide) (rfl) (hi) dX1_copyFrom_66 ?_
      refine x_iast hO (by decide) rfl (by decide) (rfl) (hi) dX1_copyFrom_67 ?_
      refine x_aload_n hO dX1_copyFrom_68 rfl rfl ?_
      refine x_getR (T := TX1) (j := 5) hO dX1_copyFrom_69 flX1_27 (by decide) rfl rfl (by decide) rfl rfl ?_
      refine x_iload_n hO dX1_copyFrom_72 rfl rfl ?_
      refine x_aload_n hO dX1_copyFrom_73 rfl rfl ?_
      refine x_getR (T := TX1) (j := 5) hO dX1_copyFrom_74 flX1_27 (by decide) rfl rfl (by decide) rfl rfl ?_
      refine x_iload_n hO dX1_copyFrom_77 rfl rfl ?_
      refine x_iald hO (by decide) rfl (by decide) (rfl) (hi) dX1_copyFrom_78 ?_
      refine x_iast hO (by decide) rfl (by decide) (rfl) (hi) dX1_copyFrom_79 ?_
      refine x_aload_n hO dX1_copyFrom_80 rfl rfl ?_
      refine x_getR (T := TX1) (j := 6) hO dX1_copyFrom_81 flX1_30 (by decide) rfl rfl (by decide) rfl rfl ?_
      refine x_iload_n hO dX1_copyFrom_84 rfl rfl ?_
      refine x_aload_n hO dX1_copyFrom_85 rfl rfl ?_
      refine x_getR (T := TX1) (j := 6) hO dX1_copyFrom_86 flX1_30 (by decide) rfl rfl (by decide) rfl rfl ?_
      refine x_iload_n hO dX1_copyFrom_89 rfl rfl ?_
      refine x_iald hO (by decide) rfl (by decide) (rfl) (hi) dX1_copyFrom_90 ?_
      refine x_iast hO (by decide) rfl (by decide) (rfl) (hi) dX1_copyFrom_91 ?_
      refine x_iinc hO dX1_copyFrom_92 rfl (by first | exact xinc_n _ | rfl) rfl hN ?_
      refine x_goto (tgt := 2) hO dX1_copyFrom_95 (by decide) ?_
      refine ih _ (cpR_s h1 (all7 ?_ ?_ ?_ ?_ ?_ ?_ ?_) (all7 ?_ ?_ ?_ ?_ ?_ ?_ ?_) (fun k hk => ?_))
      all_goals first
        | (simp [xset_at, g25, g26, g27, g28, g29, g30, g31]; done)
        | (intro s hs; simp [xset_at, hs]; done)
        | skip
      have h17 : ¬ k = 17 := by omega
      have h18 : ¬ k = 18 := by omega
      have h19 : ¬ k = 19 := by omega
      have h20 : ¬ k = 20 := by omega
      have h21 : ¬ k = 21 := by omega
      have h22 : ¬ k = 22 := by omega
      have h23 : ¬ k = 23 := by omega
      funext a
      simp [xset_at, h17, h18, h19, h20, h21, h22, h23]
theorem k_copyFrom_16_32 (U : xP) (M : xM) : xMetV U mX1_copyFrom [.inr 16, .inr 32] M (fun M' => cpSt M M' 16 32) := by
  refine xMetV.of (L := [some (.inr 16), some (.inr 32), none]) fX1_copyFrom rfl rfl (Nat.le_of_ble_eq_true rfl) (fun G hN hO hR => ?_)
  have hN : G.2.2.2.2.2.2.2.2.2.2.1 = 3 := hN
  have hO : xOK U G RX1 cX1_copyFrom 0 := hO
  refine x_iconst (v := nI 0) hO dX1_copyFrom_0 rfl ?_
  refine x_istore_n (n := 3) hO dX1_copyFrom_1 rfl rfl (by decide) hN ?_
  refine upd_ind (P := fun i _ => ∀ M1, cpR M M1 16 32 i → XW U G 2 [some (.inr 16), some (.inr 32), some (.inl (nI i))] [] M1) 32 ?_ ?_ 32 0 rfl M ⟨fun w _ s hs => by omega, fun k _ => rfl⟩
  · intro M1 h1
    refine x_iload_n hO dX1_copyFrom_2 rfl rfl ?_
    refine x_bipush (v := nI 32) hO dX1_copyFrom_3 rfl ?_
    refine x_icmp_ge (tgt := 98) hO dX1_copyFrom_5 (by decide) (fun c => ?_) (fun c => ?_)
    · refine x_aload_n hO dX1_copyFrom_98 rfl rfl ?_
      refine x_aload_n hO dX1_copyFrom_99 rfl rfl ?_
      refine x_getI (T := TX1) (j := 7) hO dX1_copyFrom_100 flX1_33 (by decide) rfl rfl (by decide) rfl rfl ?_
      refine x_put (T := TX1) (j := 7) (ty := .int) hO dX1_copyFrom_103 flX1_33 (by decide) rfl rfl (by decide) rfl rfl rfl (by decide +kernel) rfl rfl ?_
      refine x_aload_n hO dX1_copyFrom_106 rfl rfl ?_
      refine x_aload_n hO dX1_copyFrom_107 rfl rfl ?_
      refine x_getI (T := TX1) (j := 8) hO dX1_copyFrom_108 flX1_37 (by decide) rfl rfl (by decide) rfl rfl ?_
      refine x_put (T := TX1) (j := 8) (ty := .int) hO dX1_copyFrom_111 flX1_37 (by decide) rfl rfl (by decide) rfl rfl rfl (by decide +kernel) rfl rfl ?_
      refine x_aload_n hO dX1_copyFrom_114 rfl rfl ?_
      refine x_aload_n hO dX1_copyFrom_115 rfl rfl ?_
      refine x_getI (T := TX1) (j := 9) hO dX1_copyFrom_116 flX1_40 (by decide) rfl rfl (by decide) rfl rfl ?_
      refine x_put (T := TX1) (j := 9) (ty := .int) hO dX1_copyFrom_119 flX1_40 (by decide) rfl rfl (by decide) rfl rfl rfl (by decide +kernel) rfl rfl ?_
      refine x_aload_n hO dX1_copyFrom_122 rfl rfl ?_
      refine x_aload_n hO dX1_copyFrom_123 rfl rfl ?_
      refine x_getI (T := TX1) (j := 10) hO dX1_copyFrom_124 flX1_43 (by decide) rfl rfl (by decide) rfl rfl ?_
      refine x_put (T := TX1) (j := 10) (ty := .int) hO dX1_copyFrom_127 flX1_43 (by decide) rfl rfl (by decide) rfl rfl rfl (by decide +kernel) rfl rfl ?_
      refine x_aload_n hO dX1_copyFrom_130 rfl rfl ?_
      refine x_aload_n hO dX1_copyFrom_131 rfl rfl ?_
      refine x_getI (T := TX1) (j := 11) hO dX1_copyFrom_132 flX1_46 (by decide) rfl rfl (by decide) rfl rfl ?_
      refine x_put (T := TX1) (j := 11) (ty := .int) hO dX1_copyFrom_135 flX1_46 (by decide) rfl rfl (by decide) rfl rfl rfl (by decide +kernel) rfl rfl ?_
      refine x_vret hO hR dX1_copyFrom_138 ?_
      have gp : M1 16 = M 16 := h1.2 _ (by omega)
      have gq : M1 32 = M 32 := h1.2 _ (by omega)
      refine ⟨cA_ext (fun s hs => ?_) (fun s hs => cA_ge hs), all5 ?_ ?_ ?_ ?_ ?_, fun k hk => ?_⟩
      · refine cA_row hs hs (fun w hw => ?_)
        have e := h1.1 w hw s hs
        have n0 : ¬ 16 + 1 + w = 16 := by omega
        simp only [xset_at, n0, if_false]
        exact e
      · simp [xset_at, gp, gq]
      · simp [xset_at, gp, gq]
      · simp [xset_at, gp, gq]
      · simp [xset_at, gp, gq]
      · simp [xset_at, gp, gq]
      · have n0 : ¬ k = 16 := by omega
        funext a
        simp only [xset_at, n0, if_false]
        rw [h1.2 k (by omega)]
    · exact absurd (Int32.le_refl _) c
  · intro i d hd ih M1 h1
    have hi : i < 32 := by omega
    have g33 : M1 33 = M 33 := h1.2 _ (by omega)
    have g34 : M1 34 = M 34 := h1.2 _ (by omega)
    have g35 : M1 35 = M 35 := h1.2 _ (by omega)
    have g36 : M1 36 = M 36 := h1.2 _ (by omega)
    have g37 : M1 37 = M 37 := h1.2 _ (by omega)
    have g38 : M1 38 = M 38 := h1.2 _ (by omega)
    have g39 : M1 39 = M 39 := h1.2 _ (by omega)
    refine x_iload_n hO dX1_copyFrom_2 rfl rfl ?_
    refine x_bipush (v := nI 32) hO dX1_copyFrom_3 rfl ?_
    refine x_icmp_ge (tgt := 98) hO dX1_copyFrom_5 (by decide) (fun c => ?_) (fun c => ?_)
    · exact absurd c (nI_ge hi (by decide))
    · refine x_aload_n hO dX1_copyFrom_8 rfl rfl ?_
      refine x_getR (T := TX1) (j := 0) hO dX1_copyFrom_9 flX1_9 (by decide) rfl rfl (by decide) rfl rfl ?_
      refine x_iload_n hO dX1_copyFrom_12 rfl rfl ?_
      refine x_aload_n hO dX1_copyFrom_13 rfl rfl ?_
      refine x_getR (T := TX1) (j := 0) hO dX1_copyFrom_14 flX1_9 (by decide) rfl rfl (by decide) rfl rfl ?_
      refine x_iload_n hO dX1_copyFrom_17 rfl rfl ?_
      refine x_iald hO (by decide) rfl (by decide) (rfl) (hi) dX1_copyFrom_18 ?_
      refine x_iast hO (by decide) rfl (by decide) (rfl) (hi) dX1_copyFrom_19 ?_
      refine x_aload_n hO dX1_copyFrom_20 rfl rfl ?_
      refine x_getR (T := TX1) (j := 1) hO dX1_copyFrom_21 flX1_15 (by decide) rfl rfl (by decide) rfl rfl ?_
      refine x_iload_n hO dX1_copyFrom_24 rfl rfl ?_
      refine x_aload_n hO dX1_copyFrom_25 rfl rfl ?_
      refine x_getR (T := TX1) (j := 1) hO dX1_copyFrom_26 flX1_15 (by decide) rfl rfl (by decide) rfl rfl ?_
      refine x_iload_n hO dX1_copyFrom_29 rfl rfl ?_
      refine x_iald hO (by decide) rfl (by decide) (rfl) (hi) dX1_copyFrom_30 ?_
      refine x_iast hO (by decide) rfl (by decide) (rfl) (hi) dX1_copyFrom_31 ?_
      refine x_aload_n hO dX1_copyFrom_32 rfl rfl ?_
      refine x_getR (T := TX1) (j := 2) hO dX1_copyFrom_33 flX1_18 (by decide) rfl rfl (by decide) rfl rfl ?_
      refine x_iload_n hO dX1_copyFrom_36 rfl rfl ?_
      refine x_aload_n hO dX1_copyFrom_37 rfl rfl ?_
      refine x_getR (T := TX1) (j := 2) hO dX1_copyFrom_38 flX1_18 (by decide) rfl rfl (by decide) rfl rfl ?_
      refine x_iload_n hO dX1_copyFrom_41 rfl rfl ?_
      refine x_iald hO (by decide) rfl (by decide) (rfl) (hi) dX1_copyFrom_42 ?_
      refine x_iast hO (by decide) rfl (by decide) (rfl) (hi) dX1_copyFrom_43 ?_
      refine x_aload_n hO dX1_copyFrom_44 rfl rfl ?_
      refine x_getR (T := TX1) (j := 3) hO dX1_copyFrom_45 flX1_21 (by decide) rfl rfl (by decide) rfl rfl ?_
      refine x_iload_n hO dX1_copyFrom_48 rfl rfl ?_
      refine x_aload_n hO dX1_copyFrom_49 rfl rfl ?_
      refine x_getR (T := TX1) (j := 3) hO dX1_copyFrom_50 flX1_21 (by decide) rfl rfl (by decide) rfl rfl ?_
      refine x_iload_n hO dX1_copyFrom_53 rfl rfl ?_
      refine x_iald hO (by decide) rfl (by decide) (rfl) (hi) dX1_copyFrom_54 ?_
      refine x_iast hO (by decide) rfl (by decide) (rfl) (hi) dX1_copyFrom_55 ?_
      refine x_aload_n hO dX1_copyFrom_56 rfl rfl ?_
      refine x_getR (T := TX1) (j := 4) hO dX1_copyFrom_57 flX1_24 (by decide) rfl rfl (by decide) rfl rfl ?_
      refine x_iload_n hO dX1_copyFrom_60 rfl rfl ?_
      refine x_aload_n hO dX1_copyFrom_61 rfl rfl ?_
      refine x_getR (T := TX1) (j := 4) hO dX1_copyFrom_62 flX1_24 (by decide) rfl rfl (by decide) rfl rfl ?_
      refine x_iload_n hO dX1_copyFrom_65 rfl rfl ?_
      refine x_iald hO (by decide) rfl (by decide) (rfl) (hi) dX1_copyFrom_66 ?_
      refine x_iast hO (by decide) rfl (by decide) (rfl) (hi) dX1_copyFrom_67 ?_
      refine x_aload_n hO dX1_copyFrom_68 rfl rfl ?_
      refine x_getR (T := TX1) (j := 5) hO dX1_copyFrom_69 flX1_27 (by decide) rfl rfl (by decide) rfl rfl ?_
      refine x_iload_n hO dX1_copyFrom_72 rfl rfl ?_
      refine x_aload_n hO dX1_copyFrom_73 rfl rfl ?_
      refine x_getR (T := TX1) (j := 5) hO dX1_copyFrom_74 flX1_27 (by decide) rfl rfl (by decide) rfl rfl ?_
      refine x_iload_n hO dX1_copyFrom_77 rfl rfl ?_
      refine x_iald hO (by decide) rfl (by decide) (rfl) (hi) dX1_copyFrom_78 ?_
      refine x_iast hO (by decide) rfl (by decide) (rfl) (hi) dX1_copyFrom_79 ?_
      refine x_aload_n hO dX1_copyFrom_80 rfl rfl ?_
      refine x_getR (T := TX1) (j := 6) hO dX1_copyFrom_81 flX1_30 (by decide) rfl rfl (by decide) rfl rfl ?_
      refine x_iload_n hO dX1_copyFrom_84 rfl rfl ?_
      refine x_aload_n hO dX1_copyFrom_85 rfl rfl ?_
      refine x_getR (T := TX1) (j := 6) hO dX1_copyFrom_86 flX1_30 (by decide) rfl rfl (by decide) rfl rfl ?_
      refine x_iload_n hO dX1_copyFrom_89 rfl rfl ?_
      refine x_iald hO (by decide) rfl (by decide) (rfl) (hi) dX1_copyFrom_90 ?_
      refine x_iast hO (by decide) rfl (by decide) (rfl) (hi) dX1_copyFrom_91 ?_
      refine x_iinc hO dX1_copyFrom_92 rfl (by first | exact xinc_n _ | rfl) rfl hN ?_
      refine x_goto (tgt := 2) hO dX1_copyFrom_95 (by decide) ?_
      refine ih _ (cpR_s h1 (all7 ?_ ?_ ?_ ?_ ?_ ?_ ?_) (all7 ?_ ?_ ?_ ?_ ?_ ?_ ?_) (fun k hk => ?_))
      all_goals first
        | (simp [xset_at, g33, g34, g35, g36, g37, g38, g39]; done)
        | (intro s hs; simp [xset_at, hs]; done)
        | skip
      have h17 : ¬ k = 17 := by omega
      have h18 : ¬ k = 18 := by omega
      have h19 : ¬ k = 19 := by omega
      have h20 : ¬ k = 20 := by omega
      have h21 : ¬ k = 21 := by omega
      have h22 : ¬ k = 22 := by omega
      have h23 : ¬ k = 23 := by omega
      funext a
      simp [xset_at, h17, h18, h19, h20, h21, h22, h23]
theorem k_copyFrom_16_40 (U : xP) (M : xM) : xMetV U mX1_copyFrom [.inr 16, .inr 40] M (fun M' => cpSt M M' 16 40) := by
  refine xMetV.of (L := [some (.inr 16), some (.inr 40), none]) fX1_copyFrom rfl rfl (Nat.le_of_ble_eq_true rfl) (fun G hN hO hR => ?_)
  have hN : G.2.2.2.2.2.2.2.2.2.2.1 = 3 := hN
  have hO : xOK U G RX1 cX1_copyFrom 0 := hO
  refine x_iconst (v := nI 0) hO dX1_copyFrom_0 rfl ?_
  refine x_istore_n (n := 3) hO dX1_copyFrom_1 rfl rfl (by decide) hN ?_
  refine upd_ind (P := fun i _ => ∀ M1, cpR M M1 16 40 i → XW U G 2 [some (.inr 16), some (.inr 40), some (.inl (nI i))] [] M1) 32 ?_ ?_ 32 0 rfl M ⟨fun w _ s hs => by omega, fun k _ => rfl⟩
  · intro M1 h1
    refine x_iload_n hO dX1_copyFrom_2 rfl rfl ?_
    refine x_bipush (v := nI 32) hO dX1_copyFrom_3 rfl ?_
    refine x_icmp_ge (tgt := 98) hO dX1_copyFrom_5 (by decide) (fun c => ?_) (fun c => ?_)
    · refine x_aload_n hO dX1_copyFrom_98 rfl rfl ?_
      refine x_aload_n hO dX1_copyFrom_99 rfl rfl ?_
      refine x_getI (T := TX1) (j := 7) hO dX1_copyFrom_100 flX1_33 (by decide) rfl rfl (by decide) rfl rfl ?_
      refine x_put (T := TX1) (j := 7) (ty := .int) hO dX1_copyFrom_103 flX1_33 (by decide) rfl rfl (by decide) rfl rfl rfl (by decide +kernel) rfl rfl ?_
      refine x_aload_n hO dX1_copyFrom_106 rfl rfl ?_
      refine x_aload_n hO dX1_copyFrom_107 rfl rfl ?_
      refine x_getI (T := TX1) (j := 8) hO dX1_copyFrom_108 flX1_37 (by decide) rfl rfl (by decide) rfl rfl ?_
      refine x_put (T := TX1) (j := 8) (ty := .int) hO dX1_copyFrom_111 flX1_37 (by decide) rfl rfl (by decide) rfl rfl rfl (by decide +kernel) rfl rfl ?_
      refine x_aload_n hO dX1_copyFrom_114 rfl rfl ?_
      refine x_aload_n hO dX1_copyFrom_115 rfl rfl ?_
      refine x_getI (T := TX1) (j := 9) hO dX1_copyFrom_116 flX1_40 (by decide) rfl rfl (by decide) rfl rfl ?_
      refine x_put (T := TX1) (j := 9) (ty := .int) hO dX1_copyFrom_119 flX1_40 (by decide) rfl rfl (by decide) rfl rfl rfl (by decide +kernel) rfl rfl ?_
      refine x_aload_n hO dX1_copyFrom_122 rfl rfl ?_
      refine x_aload_n hO dX1_copyFrom_123 rfl rfl ?_
      refine x_getI (T := TX1) (j := 10) hO dX1_copyFrom_124 flX1_43 (by decide) rfl rfl (by decide) rfl rfl ?_
      refine x_put (T := TX1) (j := 10) (ty := .int) hO dX1_copyFrom_127 flX1_43 (by decide) rfl rfl (by decide) rfl rfl rfl (by decide +kernel) rfl rfl ?_
      refine x_aload_n hO dX1_copyFrom_130 rfl rfl ?_
      refine x_aload_n hO dX1_copyFrom_131 rfl rfl ?_
      refine x_getI (T := TX1) (j := 11) hO dX1_copyFrom_132 flX1_46 (by decide) rfl rfl (by decide) rfl rfl ?_
      refine x_put (T := TX1) (j := 11) (ty := .int) hO dX1_copyFrom_135 flX1_46 (by decide) rfl rfl (by decide) rfl rfl rfl (by decide +kernel) rfl rfl ?_
      refine x_vret hO hR dX1_copyFrom_138 ?_
      have gp : M1 16 = M 16 := h1.2 _ (by omega)
      have gq : M1 40 = M 40 := h1.2 _ (by omega)
      refine ⟨cA_ext (fun s hs => ?_) (fun s hs => cA_ge hs), all5 ?_ ?_ ?_ ?_ ?_, fun k hk => ?_⟩
      · refine cA_row hs hs (fun w hw => ?_)
        have e := h1.1 w hw s hs
        have n0 : ¬ 16 + 1 + w = 16 := by omega
        simp only [xset_at, n0, if_false]
        exact e
      · simp [xset_at, gp, gq]
      · simp [xset_at, gp, gq]
      · simp [xset_at, gp, gq]
      · simp [xset_at, gp, gq]
      · simp [xset_at, gp, gq]
      · have n0 : ¬ k = 16 := by omega
        funext a
        simp only [xset_at, n0, if_false]
        rw [h1.2 k (by omega)]
    · exact absurd (Int32.le_refl _) c
  · intro i d hd ih M1 h1
    have hi : i < 32 := by omega
    have g41 : M1 41 = M 41 := h1.2 _ (by omega)
    have g42 : M1 42 = M 42 := h1.2 _ (by omega)
    have g43 : M1 43 = M 43 := h1.2 _ (by omega)
    have g44 : M1 44 = M 44 := h1.2 _ (by omega)
    have g45 : M1 45 = M 45 := h1.2 _ (by omega)
    have g46 : M1 46 = M 46 := h1.2 _ (by omega)
    have g47 : M1 47 = M 47 := h1.2 _ (by omega)
    refine x_iload_n hO dX1_copyFrom_2 rfl rfl ?_
    refine x_bipush (v := nI 32) hO dX1_copyFrom_3 rfl ?_
    refine x_icmp_ge (tgt := 98) hO dX1_copyFrom_5 (by decide) (fun c => ?_) (fun c => ?_)
    · exact absurd c (nI_ge hi (by decide))
    · refine x_aload_n hO dX1_copyFrom_8 rfl rfl ?_
      refine x_getR (T := TX1) (j := 0) hO dX1_copyFrom_9 flX1_9 (by decide) rfl rfl (by decide) rfl rfl ?_
      refine x_iload_n hO dX1_copyFrom_12 rfl rfl ?_
      refine x_aload_n hO dX1_copyFrom_13 rfl rfl ?_
      refine x_getR (T := TX1) (j := 0) hO dX1_copyFrom_14 flX1_9 (by decide) rfl rfl (by decide) rfl rfl ?_
      refine x_iload_n hO dX1_copyFrom_17 rfl rfl ?_
      refine x_iald hO (by decide) rfl (by decide) (rfl) (hi) dX1_copyFrom_18 ?_
      refine x_iast hO (by decide) rfl (by decide) (rfl) (hi) dX1_copyFrom_19 ?_
      refine x_aload_n hO dX1_copyFrom_20 rfl rfl ?_
      refine x_getR (T := TX1) (j := 1) hO dX1_copyFrom_21 flX1_15 (by decide) rfl rfl (by decide) rfl rfl ?_
      refine x_iload_n hO dX1_copyFrom_24 rfl rfl ?_
      refine x_aload_n hO dX1_copyFrom_25 rfl rfl ?_
      refine x_getR (T := TX1) (j := 1) hO dX1_copyFrom_26 flX1_15 (by decide) rfl rfl (by decide) rfl rfl ?_
      refine x_iload_n hO dX1_copyFrom_29 rfl rfl ?_
      refine x_iald hO (by decide) rfl (by decide) (rfl) (hi) dX1_copyFrom_30 ?_
      refine x_iast hO (by decide) rfl (by decide) (rfl) (hi) dX1_copyFrom_31 ?_
      refine x_aload_n hO dX1_copyFrom_32 rfl rfl ?_
      refine x_getR (T := TX1) (j := 2) hO dX1_copyFrom_33 flX1_18 (by decide) rfl rfl (by decide) rfl rfl ?_
      refine x_iload_n hO dX1_copyFrom_36 rfl rfl ?_
      refine x_aload_n hO dX1_copyFrom_37 rfl rfl ?_
      refine x_getR (T := TX1) (j := 2) hO dX1_copyFrom_38 flX1_18 (by decide) rfl rfl (by decide) rfl rfl ?_
      refine x_iload_n hO dX1_copyFrom_41 rfl rfl ?_
      refine x_iald hO (by decide) rfl (by decide) (rfl) (hi) dX1_copyFrom_42 ?_
      refine x_iast hO (by decide) rfl (by decide) (rfl) (hi) dX1_copyFrom_43 ?_
      refine x_aload_n hO dX1_copyFrom_44 rfl rfl ?_
      refine x_getR (T := TX1) (j := 3) hO dX1_copyFrom_45 flX1_21 (by decide) rfl rfl (by decide) rfl rfl ?_
      refine x_iload_n hO dX1_copyFrom_48 rfl rfl ?_
      refine x_aload_n hO dX1_copyFrom_49 rfl rfl ?_
      refine x_getR (T := TX1) (j := 3) hO dX1_copyFrom_50 flX1_21 (by decide) rfl rfl (by decide) rfl rfl ?_
      refine x_iload_n hO dX1_copyFrom_53 rfl rfl ?_
      refine x_iald hO (by decide) rfl (by decide) (rfl) (hi) dX1_copyFrom_54 ?_
      refine x_iast hO (by decide) rfl (by decide) (rfl) (hi) dX1_copyFrom_55 ?_
      refine x_aload_n hO dX1_copyFrom_56 rfl rfl ?_
      refine x_getR (T := TX1) (j := 4) hO dX1_copyFrom_57 flX1_24 (by decide) rfl rfl (by decide) rfl rfl ?_
      refine x_iload_n hO dX1_copyFrom_60 rfl rfl ?_
      refine x_aload_n hO dX1_copyFrom_61 rfl rfl ?_
      refine x_getR (T := TX1) (j := 4) hO dX1_copyFrom_62 flX1_24 (by decide) rfl rfl (by decide) rfl rfl ?_
      refine x_iload_n hO dX1_copyFrom_65 rfl rfl ?_
      refine x_iald hO (by decide) rfl (by decide) (rfl) (hi) dX1_copyFrom_66 ?_
      refine x_iast hO (by decide) rfl (by decide) (rfl) (hi) dX1_copyFrom_67 ?_
      refine x_aload_n hO dX1_copyFrom_68 rfl rfl ?_
      refine x_getR (T := TX1) (j := 5) hO dX1_copyFrom_69 flX1_27 (by decide) rfl rfl (by decide) rfl rfl ?_
      refine x_iload_n hO dX1_copyFrom_72 rfl rfl ?_
      refine x_aload_n hO dX1_copyFrom_73 rfl rfl ?_
      refine x_getR (T := TX1) (j := 5) hO dX1_copyFrom_74 flX1_27 (by decide) rfl rfl (by decide) rfl rfl ?_
      refine x_iload_n hO dX1_copyFrom_77 rfl rfl ?_
      refine x_iald hO (by decide) rfl (by decide) (rfl) (hi) dX1_copyFrom_78 ?_
      refine x_iast hO (by decide) rfl (by decide) (rfl) (hi) dX1_copyFrom_79 ?_
      refine x_aload_n hO dX1_copyFrom_80 rfl rfl ?_
      refine x_getR (T := TX1) (j := 6) hO dX1_copyFrom_81 flX1_30 (by decide) rfl rfl (by decide) rfl rfl ?_
      refine x_iload_n hO dX1_copyFrom_84 rfl rfl ?_
      refine x_aload_n hO dX1_copyFrom_85 rfl rfl ?_
      refine x_getR (T := TX1) (j := 6) hO dX1_copyFrom_86 flX1_30 (by decide) rfl rfl (by decide) rfl rfl ?_
      refine x_iload_n hO dX1_copyFrom_89 rfl rfl ?_
      refine x_iald hO (by decide) rfl (by decide) (rfl) (hi) dX1_copyFrom_90 ?_
      refine x_iast hO (by decide) rfl (by decide) (rfl) (hi) dX1_copyFrom_91 ?_
      refine x_iinc hO dX1_copyFrom_92 rfl (by first | exact xinc_n _ | rfl) rfl hN ?_
      refine x_goto (tgt := 2) hO dX1_copyFrom_95 (by decide) ?_
      refine ih _ (cpR_s h1 (all7 ?_ ?_ ?_ ?_ ?_ ?_ ?_) (all7 ?_ ?_ ?_ ?_ ?_ ?_ ?_) (fun k hk => ?_))
      all_goals first
        | (simp [xset_at, g41, g42, g43, g44, g45, g46, g47]; done)
        | (intro s hs; simp [xset_at, hs]; done)
        | skip
      have h17 : ¬ k = 17 := by omega
      have h18 : ¬ k = 18 := by omega
      have h19 : ¬ k = 19 := by omega
      have h20 : ¬ k = 20 := by omega
      have h21 : ¬ k = 21 := by omega
      have h22 : ¬ k = 22 := by omega
      have h23 : ¬ k = 23 := by omega
      funext a
      simp [xset_at, h17, h18, h19, h20, h21, h22, h23]
theorem k_copyFrom_16_48 (U : xP) (M : xM) : xMetV U mX1_copyFrom [.inr 16, .inr 48] M (fun M' => cpSt M M' 16 48) := by
  refine xMetV.of (L := [some (.inr 16), some (.inr 48), none]) fX1_copyFrom rfl rfl (Nat.le_of_ble_eq_true rfl) (fun G hN hO hR => ?_)
  have hN : G.2.2.2.2.2.2.2.2.2.2.1 = 3 := hN
  have hO : xOK U G RX1 cX1_copyFrom 0 := hO
  refine x_iconst (v := nI 0) hO dX1_copyFrom_0 rfl ?_
  refine x_istore_n (n := 3) hO dX1_copyFrom_1 rfl rfl (by decide) hN ?_
  refine upd_ind (P := fun i _ => ∀ M1, cpR M M1 16 48 i → XW U G 2 [some (.inr 16), some (.inr 48), some (.inl (nI i))] [] M1) 32 ?_ ?_ 32 0 rfl M ⟨fun w _ s hs => by omega, fun k _ => rfl⟩
  · intro M1 h1
    refine x_iload_n hO dX1_copyFrom_2 rfl rfl ?_
    refine x_bipush (v := nI 32) hO dX1_copyFrom_3 rfl ?_
    refine x_icmp_ge (tgt := 98) hO dX1_copyFrom_5 (by decide) (fun c => ?_) (fun c => ?_)
    · refine x_aload_n hO dX1_copyFrom_98 rfl rfl ?_
      refine x_aload_n hO dX1_copyFrom_99 rfl rfl ?_
      refine x_getI (T := TX1) (j := 7) hO dX1_copyFrom_100 flX1_33 (by decide) rfl rfl (by decide) rfl rfl ?_
      refine x_put (T := TX1) (j := 7) (ty := .int) hO dX1_copyFrom_103 flX1_33 (by decide) rfl rfl (by decide) rfl rfl rfl (by decide +kernel) rfl rfl ?_
      refine x_aload_n hO dX1_copyFrom_106 rfl rfl ?_
      refine x_aload_n hO dX1_copyFrom_107 rfl rfl ?_
      refine x_getI (T := TX1) (j := 8) hO dX1_copyFrom_108 flX1_37 (by decide) rfl rfl (by decide) rfl rfl ?_
      refine x_put (T := TX1) (j := 8) (ty := .int) hO dX1_copyFrom_111 flX1_37 (by decide) rfl rfl (by decide) rfl rfl rfl (by decide +kernel) rfl rfl ?_
      refine x_aload_n hO dX1_copyFrom_114 rfl rfl ?_
      refine x_aload_n hO dX1_copyFrom_115 rfl rfl ?_
      refine x_getI (T := TX1) (j := 9) hO dX1_copyFrom_116 flX1_40 (by decide) rfl rfl (by decide) rfl rfl ?_
      refine x_put (T := TX1) (j := 9) (ty := .int) hO dX1_copyFrom_119 flX1_40 (by decide) rfl rfl (by decide) rfl rfl rfl (by decide +kernel) rfl rfl ?_
      refine x_aload_n hO dX1_copyFrom_122 rfl rfl ?_
      refine x_aload_n hO dX1_copyFrom_123 rfl rfl ?_
      refine x_getI (T := TX1) (j := 10) hO dX1_copyFrom_124 flX1_43 (by decide) rfl rfl (by decide) rfl rfl ?_
      refine x_put (T := TX1) (j := 10) (ty := .int) hO dX1_copyFrom_127 flX1_43 (by decide) rfl rfl (by decide) rfl rfl rfl (by decide +kernel) rfl rfl ?_
      refine x_aload_n hO dX1_copyFrom_130 rfl rfl ?_
      refine x_aload_n hO dX1_copyFrom_131 rfl rfl ?_
      refine x_getI (T := TX1) (j := 11) hO dX1_copyFrom_132 flX1_46 (by decide) rfl rfl (by decide) rfl rfl ?_
      refine x_put (T := TX1) (j := 11) (ty := .int) hO dX1_copyFrom_135 flX1_46 (by decide) rfl rfl (by decide) rfl rfl rfl (by decide +kernel) rfl rfl ?_
      refine x_vret hO hR dX1_copyFrom_138 ?_
      have gp : M1 16 = M 16 := h1.2 _ (by omega)
      have gq : M1 48 = M 48 := h1.2 _ (by omega)
      refine ⟨cA_ext (fun s hs => ?_) (fun s hs => cA_ge hs), all5 ?_ ?_ ?_ ?_ ?_, fun k hk => ?_⟩
      · refine cA_row hs hs (fun w hw => ?_)
        have e := h1.1 w hw s hs
        have n0 : ¬ 16 + 1 + w = 16 := by omega
        simp only [xset_at, n0, if_false]
        exact e
      · simp [xset_at, gp, gq]
      · simp [xset_at, gp, gq]
      · simp [xset_at, gp, gq]
      · simp [xset_at, gp, gq]
      · simp [xset_at, gp, gq]
      · have n0 : ¬ k = 16 := by omega
        funext a
        simp only [xset_at, n0, if_false]
        rw [h1.2 k (by omega)]
    · exact absurd (Int32.le_refl _) c
  · intro i d hd ih M1 h1
    have hi : i < 32 := by omega
    have g49 : M1 49 = M 49 := h1.2 _ (by omega)
    have g50 : M1 50 = M 50 := h1.2 _ (by omega)
    have g51 : M1 51 = M 51 := h1.2 _ (by omega)
    have g52 : M1 52 = M 52 := h1.2 _ (by omega)
    have g53 : M1 53 = M 53 := h1.2 _ (by omega)
    have g54 : M1 54 = M 54 := h1.2 _ (by omega)
    have g55 : M1 55 = M 55 := h1.2 _ (by omega)
    refine x_iload_n hO dX1_copyFrom_2 rfl rfl ?_
    refine x_bipush (v := nI 32) hO dX1_copyFrom_3 rfl ?_
    refine x_icmp_ge (tgt := 98) hO dX1_copyFrom_5 (by decide) (fun c => ?_) (fun c => ?_)
    · exact absurd c (nI_ge hi (by decide))
    · refine x_aload_n hO dX1_copyFrom_8 rfl rfl ?_
      refine x_getR (T := TX1) (j := 0) hO dX1_copyFrom_9 flX1_9 (by decide) rfl rfl (by decide) rfl rfl ?_
      refine x_iload_n hO dX1_copyFrom_12 rfl rfl ?_
      refine x_aload_n hO dX1_copyFrom_13 rfl rfl ?_
      refine x_getR (T := TX1) (j := 0) hO dX1_copyFrom_14 flX1_9 (by decide) rfl rfl (by decide) rfl rfl ?_
      refine x_iload_n hO dX1_copyFrom_17 rfl rfl ?_
      refine x_iald hO (by decide) rfl (by decide) (rfl) (hi) dX1_copyFrom_18 ?_
      refine x_iast hO (by decide) rfl (by decide) (rfl) (hi) dX1_copyFrom_19 ?_
      refine x_aload_n hO dX1_copyFrom_20 rfl rfl ?_
      refine x_getR (T := TX1) (j := 1) hO dX1_copyFrom_21 flX1_15 (by decide) rfl rfl (by decide) rfl rfl ?_
      refine x_iload_n hO dX1_copyFrom_24 rfl rfl ?_
      refine x_aload_n hO dX1_copyFrom_25 rfl rfl ?_
      refine x_getR (T := TX1) (j := 1) hO dX1_copyFrom_26 flX1_15 (by decide) rfl rfl (by decide) rfl rfl ?_
      refine x_iload_n hO dX1_copyFrom_29 rfl rfl ?_
      refine x_iald hO (by decide) rfl (by decide) (rfl) (hi) dX1_copyFrom_30 ?_
      refine x_iast hO (by decide) rfl (by decide) (rfl) (hi) dX1_copyFrom_31 ?_
      refine x_aload_n hO dX1_copyFrom_32 rfl rfl ?_
      refine x_getR (T := TX1) (j := 2) hO dX1_copyFrom_33 flX1_18 (by decide) rfl rfl (by decide) rfl rfl ?_
      refine x_iload_n hO dX1_copyFrom_36 rfl rfl ?_
      refine x_aload_n hO dX1_copyFrom_37 rfl rfl ?_
      refine x_getR (T := TX1) (j := 2) hO dX1_copyFrom_38 flX1_18 (by decide) rfl rfl (by decide) rfl rfl ?_
      refine x_iload_n hO dX1_copyFrom_41 rfl rfl ?_
      refine x_iald hO (by decide) rfl (by decide) (rfl) (hi) dX1_copyFrom_42 ?_
      refine x_iast hO (by decide) rfl (by decide) (rfl) (hi) dX1_copyFrom_43 ?_
      refine x_aload_n hO dX1_copyFrom_44 rfl rfl ?_
      refine x_getR (T := TX1) (j := 3) hO dX1_copyFrom_45 flX1_21 (by decide) rfl rfl (by decide) rfl rfl ?_
      refine x_iload_n hO dX1_copyFrom_48 rfl rfl ?_
      refine x_aload_n hO dX1_copyFrom_49 rfl rfl ?_
      refine x_getR (T := TX1) (j := 3) hO dX1_copyFrom_50 flX1_21 (by decide) rfl rfl (by decide) rfl rfl ?_
      refine x_iload_n hO dX1_copyFrom_53 rfl rfl ?_
      refine x_iald hO (by decide) rfl (by decide) (rfl) (hi) dX1_copyFrom_54 ?_
      refine x_iast hO (by decide) rfl (by decide) (rfl) (hi) dX1_copyFrom_55 ?_
      refine x_aload_n hO dX1_copyFrom_56 rfl rfl ?_
      refine x_getR (T := TX1) (j := 4) hO dX1_copyFrom_57 flX1_24 (by decide) rfl rfl (by decide) rfl rfl ?_
      refine x_iload_n hO dX1_copyFrom_60 rfl rfl ?_
      refine x_aload_n hO dX1_copyFrom_61 rfl rfl ?_
      refine x_getR (T := TX1) (j := 4) hO dX1_copyFrom_62 flX1_24 (by decide) rfl rfl (by decide) rfl rfl ?_
      refine x_iload_n hO dX1_copyFrom_65 rfl rfl ?_
      refine x_iald hO (by decide) rfl (by decide) (rfl) (hi) dX1_copyFrom_66 ?_
      refine x_iast hO (by decide) rfl (by decide) (rfl) (hi) dX1_copyFrom_67 ?_
      refine x_aload_n hO dX1_copyFrom_68 rfl rfl ?_
      refine x_getR (T := TX1) (j := 5) hO dX1_copyFrom_69 flX1_27 (by decide) rfl rfl (by decide) rfl rfl ?_
      refine x_iload_n hO dX1_copyFrom_72 rfl rfl ?_
      refine x_aload_n hO dX1_copyFrom_73 rfl rfl ?_
      refine x_getR (T := TX1) (j := 5) hO dX1_copyFrom_74 flX1_27 (by decide) rfl rfl (by decide) rfl rfl ?_
      refine x_iload_n hO dX1_copyFrom_77 rfl rfl ?_
      refine x_iald hO (by decide) rfl (by decide) (rfl) (hi) dX1_copyFrom_78 ?_
      refine x_iast hO (by decide) rfl (by decide) (rfl) (hi) dX1_copyFrom_79 ?_
      refine x_aload_n hO dX1_copyFrom_80 rfl rfl ?_
      refine x_getR (T := TX1) (j := 6) hO dX1_copyFrom_81 flX1_30 (by decide) rfl rfl (by decide) rfl rfl ?_
      refine x_iload_n hO dX1_copyFrom_84 rfl rfl ?_
      refine x_aload_n hO dX1_copyFrom_85 rfl rfl ?_
      refine x_getR (T := TX1) (j := 6) hO dX1_copyFrom_86 flX1_30 (by decide) rfl rfl (by decide) rfl rfl ?_
      refine x_iload_n hO dX1_copyFrom_89 rfl rfl ?_
      refine x_iald hO (by decide) rfl (by decide) (rfl) (hi) dX1_copyFrom_90 ?_
      refine x_iast hO (by decide) rfl (by decide) (rfl) (hi) dX1_copyFrom_91 ?_
      refine x_iinc hO dX1_copyFrom_92 rfl (by first | exact xinc_n _ | rfl) rfl hN ?_
      refine x_goto (tgt := 2) hO dX1_copyFrom_95 (by decide) ?_
      refine ih _ (cpR_s h1 (all7 ?_ ?_ ?_ ?_ ?_ ?_ ?_) (all7 ?_ ?_ ?_ ?_ ?_ ?_ ?_) (fun k hk => ?_))
      all_goals first
        | (simp [xset_at, g49, g50, g51, g52, g53, g54, g55]; done)
        | (intro s hs; simp [xset_at, hs]; done)
        | skip
      have h17 : ¬ k = 17 := by omega
      have h18 : ¬ k = 18 := by omega
      have h19 : ¬ k = 19 := by omega
      have h20 : ¬ k = 20 := by omega
      have h21 : ¬ k = 21 := by omega
      have h22 : ¬ k = 22 := by omega
      have h23 : ¬ k = 23 := by omega
      funext a
      simp [xset_at, h17, h18, h19, h20, h21, h22, h23]
theorem k_copyFrom_16_56 (U : xP) (M : xM) : xMetV U mX1_copyFrom [.inr 16, .inr 56] M (fun M' => cpSt M M' 16 56) := by
  refine xMetV.of (L := [some (.inr 16), some (.inr 56), none]) fX1_copyFrom rfl rfl (Nat.le_of_ble_eq_true rfl) (fun G hN hO hR => ?_)
  have hN : G.2.2.2.2.2.2.2.2.2.2.1 = 3 := hN
  have hO : xOK U G RX1 cX1_copyFrom 0 := hO
  refine x_iconst (v := nI 0) hO dX1_copyFrom_0 rfl ?_
  refine x_istore_n (n := 3) hO dX1_copyFrom_1 rfl rfl (by decide) hN ?_
  refine upd_ind (P := fun i _ => ∀ M1, cpR M M1 16 56 i → XW U G 2 [some (.inr 16), some (.inr 56), some (.inl (nI i))] [] M1) 32 ?_ ?_ 32 0 rfl M ⟨fun w _ s hs => by omega, fun k _ => rfl⟩
  · intro M1 h1
    refine x_iload_n hO dX1_copyFrom_2 rfl rfl ?_
    refine x_bipush (v := nI 32) hO dX1_copyFrom_3 rfl ?_
    refine x_icmp_ge (tgt := 98) hO dX1_copyFrom_5 (by decide) (fun c => ?_) (fun c => ?_)
    · refine x_aload_n hO dX1_copyFrom_98 rfl rfl ?_
      refine x_aload_n hO dX1_copyFrom_99 rfl rfl ?_
      refine x_getI (T := TX1) (j := 7) hO dX1_copyFrom_100 flX1_33 (by decide) rfl rfl (by decide) rfl rfl ?_
      refine x_put (T := TX1) (j := 7) (ty := .int) hO dX1_copyFrom_103 flX1_33 (by decide) rfl rfl (by decide) rfl rfl rfl (by decide +kernel) rfl rfl ?_
      refine x_aload_n hO dX1_copyFrom_106 rfl rfl ?_
      refine x_aload_n hO dX1_copyFrom_107 rfl rfl ?_
      refine x_getI (T := TX1) (j := 8) hO dX1_copyFrom_108 flX1_37 (by decide) rfl rfl (by decide) rfl rfl ?_
      refine x_put (T := TX1) (j := 8) (ty := .int) hO dX1_copyFrom_111 flX1_37 (by decide) rfl rfl (by decide) rfl rfl rfl (by decide +kernel) rfl rfl ?_
      refine x_aload_n hO dX1_copyFrom_114 rfl rfl ?_
      refine x_aload_n hO dX1_copyFrom_115 rfl rfl ?_
      refine x_getI (T := TX1) (j := 9) hO dX1_copyFrom_116 flX1_40 (by decide) rfl rfl (by decide) rfl rfl ?_
      refine x_put (T := TX1) (j := 9) (ty := .int) hO dX1_copyFrom_119 flX1_40 (by decide) rfl rfl (by decide) rfl rfl rfl (by decide +kernel) rfl rfl ?_
      refine x_aload_n hO dX1_copyFrom_122 rfl rfl ?_
      refine x_aload_n hO dX1_copyFrom_123 rfl rfl ?_
      refine x_getI (T := TX1) (j := 10) hO dX1_copyFrom_124 flX1_43 (by decide) rfl rfl (by decide) rfl rfl ?_
      refine x_put (T := TX1) (j := 10) (ty := .int) hO dX1_copyFrom_127 flX1_43 (by decide) rfl rfl (by decide) rfl rfl rfl (by decide +kernel) rfl rfl ?_
      refine x_aload_n hO dX1_copyFrom_130 rfl rfl ?_
      refine x_aload_n hO dX1_copyFrom_131 rfl rfl ?_
      refine x_getI (T := TX1) (j := 11) hO dX1_copyFrom_132 flX1_46 (by decide) rfl rfl (by decide) rfl rfl ?_
      refine x_put (T := TX1) (j := 11) (ty := .int) hO dX1_copyFrom_135 flX1_46 (by decide) rfl rfl (by decide) rfl rfl rfl (by decide +kernel) rfl rfl ?_
      refine x_vret hO hR dX1_copyFrom_138 ?_
      have gp : M1 16 = M 16 := h1.2 _ (by omega)
      have gq : M1 56 = M 56 := h1.2 _ (by omega)
      refine ⟨cA_ext (fun s hs => ?_) (fun s hs => cA_ge hs), all5 ?_ ?_ ?_ ?_ ?_, fun k hk => ?_⟩
      · refine cA_row hs hs (fun w hw => ?_)
        have e := h1.1 w hw s hs
        have n0 : ¬ 16 + 1 + w = 16 := by omega
        simp only [xset_at, n0, if_false]
        exact e
      · simp [xset_at, gp, gq]
      · simp [xset_at, gp, gq]
      · simp [xset_at, gp, gq]
      · simp [xset_at, gp, gq]
      · simp [xset_at, gp, gq]
      · have n0 : ¬ k = 16 := by omega
        funext a
        simp only [xset_at, n0, if_false]
        rw [h1.2 k (by omega)]
    · exact absurd (Int32.le_refl _) c
  · intro i d hd ih M1 h1
    have hi : i < 32 := by omega
    have g57 : M1 57 = M 57 := h1.2 _ (by omega)
    have g58 : M1 58 = M 58 := h1.2 _ (by omega)
    have g59 : M1 59 = M 59 := h1.2 _ (by omega)
    have g60 : M1 60 = M 60 := h1.2 _ (by omega)
    have g61 : M1 61 = M 61 := h1.2 _ (by omega)
    have g62 : M1 62 = M 62 := h1.2 _ (by omega)
    have g63 : M1 63 = M 63 := h1.2 _ (by omega)
    refine x_iload_n hO dX1_copyFrom_2 rfl rfl ?_
    refine x_bipush (v := nI 32) hO dX1_copyFrom_3 rfl ?_
    refine x_icmp_ge (tgt := 98) hO dX1_copyFrom_5 (by decide) (fun c => ?_) (fun c => ?_)
    · exact absurd c (nI_ge hi (by decide))
    · refine x_aload_n hO dX1_copyFrom_8 rfl rfl ?_
      refine x_getR (T := TX1) (j := 0) hO dX1_copyFrom_9 flX1_9 (by decide) rfl rfl (by decide) rfl rfl ?_
      refine x_iload_n hO dX1_copyFrom_12 rfl rfl ?_
      refine x_aload_n hO dX1_copyFrom_13 rfl rfl ?_
      refine x_getR (T := TX1) (j := 0) hO dX1_copyFrom_14 flX1_9 (by decide) rfl rfl (by decide) rfl rfl ?_
      refine x_iload_n hO dX1_copyFrom_17 rfl rfl ?_
      refine x_iald hO (by decide) rfl (by decide) (rfl) (hi) dX1_copyFrom_18 ?_
      refine x_iast hO (by decide) rfl (by decide) (rfl) (hi) dX1_copyFrom_19 ?_
      refine x_aload_n hO dX1_copyFrom_20 rfl rfl ?_
      refine x_getR (T := TX1) (j := 1) hO dX1_copyFrom_21 flX1_15 (by decide) rfl rfl (by decide) rfl rfl ?_
      refine x_iload_n hO dX1_copyFrom_24 rfl rfl ?_
      refine x_aload_n hO dX1_copyFrom_25 rfl rfl ?_
      refine x_getR (T := TX1) (j := 1) hO dX1_copyFrom_26 flX1_15 (by decide) rfl rfl (by decide) rfl rfl ?_
      refine x_iload_n hO dX1_copyFrom_29 rfl rfl ?_
      refine x_iald hO (by decide) rfl (by decide) (rfl) (hi) dX1_copyFrom_30 ?_
      refine x_iast hO (by decide) rfl (by decide) (rfl) (hi) dX1_copyFrom_31 ?_
      refine x_aload_n hO dX1_copyFrom_32 rfl rfl ?_
      refine x_getR (T := TX1) (j := 2) hO dX1_copyFrom_33 flX1_18 (by decide) rfl rfl (by decide) rfl rfl ?_
      refine x_iload_n hO dX1_copyFrom_36 rfl rfl ?_
      refine x_aload_n hO dX1_copyFrom_37 rfl rfl ?_
      refine x_getR (T := TX1) (j := 2) hO dX1_copyFrom_38 flX1_18 (by decide) rfl rfl (by decide) rfl rfl ?_
      refine x_iload_n hO dX1_copyFrom_41 rfl rfl ?_
      refine x_iald hO (by decide) rfl (by decide) (rfl) (hi) dX1_copyFrom_42 ?_
      refine x_iast hO (by decide) rfl (by decide) (rfl) (hi) dX1_copyFrom_43 ?_
      refine x_aload_n hO dX1_copyFrom_44 rfl rfl ?_
      refine x_getR (T := TX1) (j := 3) hO dX1_copyFrom_45 flX1_21 (by decide) rfl rfl (by decide) rfl rfl ?_
      refine x_iload_n hO dX1_copyFrom_48 rfl rfl ?_
      refine x_aload_n hO dX1_copyFrom_49 rfl rfl ?_
      refine x_getR (T := TX1) (j := 3) hO dX1_copyFrom_50 flX1_21 (by decide) rfl rfl (by decide) rfl rfl ?_
      refine x_iload_n hO dX1_copyFrom_53 rfl rfl ?_
      refine x_iald hO (by decide) rfl (by decide) (rfl) (hi) dX1_copyFrom_54 ?_
      refine x_iast hO (by decide) rfl (by decide) (rfl) (hi) dX1_copyFrom_55 ?_
      refine x_aload_n hO dX1_copyFrom_56 rfl rfl ?_
      refine x_getR (T := TX1) (j := 4) hO dX1_copyFrom_57 flX1_24 (by decide) rfl rfl (by decide) rfl rfl ?_
      refine x_iload_n hO dX1_copyFrom_60 rfl rfl ?_
      refine x_aload_n hO dX1_copyFrom_61 rfl rfl ?_
      refine x_getR (T := TX1) (j := 4) hO dX1_copyFrom_62 flX1_24 (by decide) rfl rfl (by decide) rfl rfl ?_
      refine x_iload_n hO dX1_copyFrom_65 rfl rfl ?_
      refine x_iald hO (by decide) rfl (by decide) (rfl) (hi) dX1_copyFrom_66 ?_
      refine x_iast hO (by decide) rfl (by decide) (rfl) (hi) dX1_copyFrom_67 ?_
      refine x_aload_n hO dX1_copyFrom_68 rfl rfl ?_
      refine x_getR (T := TX1) (j := 5) hO dX1_copyFrom_69 flX1_27 (by decide) rfl rfl (by decide) rfl rfl ?_
      refine x_iload_n hO dX1_copyFrom_72 rfl rfl ?_
      refine x_aload_n hO dX1_copyFrom_73 rfl rfl ?_
      refine x_getR (T := TX1) (j := 5) hO dX1_copyFrom_74 flX1_27 (by decide) rfl rfl (by decide) rfl rfl ?_
      refine x_iload_n hO dX1_copyFrom_77 rfl rfl ?_
      refine x_iald hO (by decide) rfl (by decide) (rfl) (hi) dX1_copyFrom_78 ?_
      refine x_iast hO (by decide) rfl (by decide) (rfl) (hi) dX1_copyFrom_79 ?_
      refine x_aload_n hO dX1_copyFrom_80 rfl rfl ?_
      refine x_getR (T := TX1) (j := 6) hO dX1_copyFrom_81 flX1_30 (by decide) rfl rfl (by decide) rfl rfl ?_
      refine x_iload_n hO dX1_copyFrom_84 rfl rfl ?_
      refine x_aload_n hO dX1_copyFrom_85 rfl rfl ?_
      refine x_getR (T := TX1) (j := 6) hO dX1_copyFrom_86 flX1_30 (by decide) rfl rfl (by decide) rfl rfl ?_
      refine x_iload_n hO dX1_copyFrom_89 rfl rfl ?_
      refine x_iald hO (by decide) rfl (by decide) (rfl) (hi) dX1_copyFrom_90 ?_
      refine x_iast hO (by decide) rfl (by decide) (rfl) (hi) dX1_copyFrom_91 ?_
      refine x_iinc hO dX1_copyFrom_92 rfl (by first | exact xinc_n _ | rfl) rfl hN ?_
      refine x_goto (tgt := 2) hO dX1_copyFrom_95 (by decide) ?_
      refine ih _ (cpR_s h1 (all7 ?_ ?_ ?_ ?_ ?_ ?_ ?_) (all7 ?_ ?_ ?_ ?_ ?_ ?_ ?_) (fun k hk => ?_))
      all_goals first
        | (simp [xset_at, g57, g58, g59, g60, g61, g62, g63]; done)
        | (intro s hs; simp [xset_at, hs]; done)
        | skip
      have h17 : ¬ k = 17 := by omega
      have h18 : ¬ k = 18 := by omega
      have h19 : ¬ k = 19 := by omega
      have h20 : ¬ k = 20 := by omega
      have h21 : ¬ k = 21 := by omega
      have h22 : ¬ k = 22 := by omega
      have h23 : ¬ k = 23 := by omega
      funext a
      simp [xset_at, h17, h18, h19, h20, h21, h22, h23]
theorem k_copyFrom_24_16 (U : xP) (M : xM) : xMetV U mX1_copyFrom [.inr 24, .inr 16] M (fun M' => cpSt M M' 24 16) := by
  refine xMetV.of (L := [some (.inr 24), some (.inr 16), none]) fX1_copyFrom rfl rfl (Nat.le_of_ble_eq_true rfl) (fun G hN hO hR => ?_)
  have hN : G.2.2.2.2.2.2.2.2.2.2.1 = 3 := hN
  have hO : xOK U G RX1 cX1_copyFrom 0 := hO
  refine x_iconst (v := nI 0) hO dX1_copyFrom_0 rfl ?_
  refine x_istore_n (n := 3) hO dX1_copyFrom_1 rfl rfl (by decide) hN ?_
  refine upd_ind (P := fun i _ => ∀ M1, cpR M M1 24 16 i → XW U G 2 [some (.inr 24), some (.inr 16), some (.inl (nI i))] [] M1) 32 ?_ ?_ 32 0 rfl M ⟨fun w _ s hs => by omega, fun k _ => rfl⟩
  · intro M1 h1
    refine x_iload_n hO dX1_copyFrom_2 rfl rfl ?_
    refine x_bipush (v := nI 32) hO dX1_copyFrom_3 rfl ?_
    refine x_icmp_ge (tgt := 98) hO dX1_copyFrom_5 (by decide) (fun c => ?_) (fun c => ?_)
    · refine x_aload_n hO dX1_copyFrom_98 rfl rfl ?_
      refine x_aload_n hO dX1_copyFrom_99 rfl rfl ?_
      refine x_getI (T := TX1) (j := 7) hO dX1_copyFrom_100 flX1_33 (by decide) rfl rfl (by decide) rfl rfl ?_
      refine x_put (T := TX1) (j := 7) (ty := .int) hO dX1_copyFrom_103 flX1_33 (by decide) rfl rfl (by decide) rfl rfl rfl (by decide +kernel) rfl rfl ?_
      refine x_aload_n hO dX1_copyFrom_106 rfl rfl ?_
      refine x_aload_n hO dX1_copyFrom_107 rfl rfl ?_
      refine x_getI (T := TX1) (j := 8) hO dX1_copyFrom_108 flX1_37 (by decide) rfl rfl (by decide) rfl rfl ?_
      refine x_put (T := TX1) (j := 8) (ty := .int) hO dX1_copyFrom_111 flX1_37 (by decide) rfl rfl (by decide) rfl rfl rfl (by decide +kernel) rfl rfl ?_
      refine x_aload_n hO dX1_copyFrom_114 rfl rfl ?_
      refine x_aload_n hO dX1_copyFrom_115 rfl rfl ?_
      refine x_getI (T := TX1) (j := 9) hO dX1_copyFrom_116 flX1_40 (by decide) rfl rfl (by decide) rfl rfl ?_
      refine x_put (T := TX1) (j := 9) (ty := .int) hO dX1_copyFrom_119 flX1_40 (by decide) rfl rfl (by decide) rfl rfl rfl (by decide +kernel) rfl rfl ?_
      refine x_aload_n hO dX1_copyFrom_122 rfl rfl ?_
      refine x_aload_n hO dX1_copyFrom_123 rfl rfl ?_
      refine x_getI (T := TX1) (j := 10) hO dX1_copyFrom_124 flX1_43 (by decide) rfl rfl (by decide) rfl rfl ?_
      refine x_put (T := TX1) (j := 10) (ty := .int) hO dX1_copyFrom_127 flX1_43 (by decide) rfl rfl (by decide) rfl rfl rfl (by decide +kernel) rfl rfl ?_
      refine x_aload_n hO dX1_copyFrom_130 rfl rfl ?_
      refine x_aload_n hO dX1_copyFrom_131 rfl rfl ?_
      refine x_getI (T := TX1) (j := 11) hO dX1_copyFrom_132 flX1_46 (by decide) rfl rfl (by decide) rfl rfl ?_
      refine x_put (T := TX1) (j := 11) (ty := .int) hO dX1_copyFrom_135 flX1_46 (by decide) rfl rfl (by decide) rfl rfl rfl (by decide +kernel) rfl rfl ?_
      refine x_vret hO hR dX1_copyFrom_138 ?_
      have gp : M1 24 = M 24 := h1.2 _ (by omega)
      have gq : M1 16 = M 16 := h1.2 _ (by omega)
      refine ⟨cA_ext (fun s hs => ?_) (fun s hs => cA_ge hs), all5 ?_ ?_ ?_ ?_ ?_, fun k hk => ?_⟩
      · refine cA_row hs hs (fun w hw => ?_)
        have e := h1.1 w hw s hs
        have n0 : ¬ 24 + 1 + w = 24 := by omega
        simp only [xset_at, n0, if_false]
        exact e
      · simp [xset_at, gp, gq]
      · simp [xset_at, gp, gq]
      · simp [xset_at, gp, gq]
      · simp [xset_at, gp, gq]
      · simp [xset_at, gp, gq]
      · have n0 : ¬ k = 24 := by omega
        funext a
        simp only [xset_at, n0, if_false]
        rw [h1.2 k (by omega)]
    · exact absurd (Int32.le_refl _) c
  · intro i d hd ih M1 h1
    have hi : i < 32 := by omega
    have g17 : M1 17 = M 17 := h1.2 _ (by omega)
    have g18 : M1 18 = M 18 := h1.2 _ (by omega)
    have g19 : M1 19 = M 19 := h1.2 _ (by omega)
    have g20 : M1 20 = M 20 := h1.2 _ (by omega)
    have g21 : M1 21 = M 21 := h1.2 _ (by omega)
    have g22 : M1 22 = M 22 := h1.2 _ (by omega)
    have g23 : M1 23 = M 23 := h1.2 _ (by omega)
    refine x_iload_n hO dX1_copyFrom_2 rfl rfl ?_
    refine x_bipush (v := nI 32) hO dX1_copyFrom_3 rfl ?_
    refine x_icmp_ge (tgt := 98) hO dX1_copyFrom_5 (by decide) (fun c => ?_) (fun c => ?_)
    · exact absurd c (nI_ge hi (by decide))
    · refine x_aload_n hO dX1_copyFrom_8 rfl rfl ?_
      refine x_getR (T := TX1) (j := 0) hO dX1_copyFrom_9 flX1_9 (by decide) rfl rfl (by decide) rfl rfl ?_
      refine x_iload_n hO dX1_copyFrom_12 rfl rfl ?_
      refine x_aload_n hO dX1_copyFrom_13 rfl rfl ?_
      refine x_getR (T := TX1) (j := 0) hO dX1_copyFrom_14 flX1_9 (by decide) rfl rfl (by decide) rfl rfl ?_
      refine x_iload_n hO dX1_copyFrom_17 rfl rfl ?_
      refine x_iald hO (by decide) rfl (by decide) (rfl) (hi) dX1_copyFrom_18 ?_
      refine x_iast hO (by decide) rfl (by decide) (rfl) (hi) dX1_copyFrom_19 ?_
      refine x_aload_n hO dX1_copyFrom_20 rfl rfl ?_
      refine x_getR (T := TX1) (j := 1) hO dX1_copyFrom_21 flX1_15 (by decide) rfl rfl (by decide) rfl rfl ?_
      refine x_iload_n hO dX1_copyFrom_24 rfl rfl ?_
      refine x_aload_n hO dX1_copyFrom_25 rfl rfl ?_
      refine x_getR (T := TX1) (j := 1) hO dX1_copyFrom_26 flX1_15 (by decide) rfl rfl (by decide) rfl rfl ?_
      refine x_iload_n hO dX1_copyFrom_29 rfl rfl ?_
      refine x_iald hO (by decide) rfl (by decide) (rfl) (hi) dX1_copyFrom_30 ?_
      refine x_iast hO (by decide) rfl (by decide) (rfl) (hi) dX1_copyFrom_31 ?_
      refine x_aload_n hO dX1_copyFrom_32 rfl rfl ?_
      refine x_getR (T := TX1) (j := 2) hO dX1_copyFrom_33 flX1_18 (by decide) rfl rfl (by decide) rfl rfl ?_
      refine x_iload_n hO dX1_copyFrom_36 rfl rfl ?_
      refine x_aload_n hO dX1_copyFrom_37 rfl rfl ?_
      refine x_getR (T := TX1) (j := 2) hO dX1_copyFrom_38 flX1_18 (by decide) rfl rfl (by decide) rfl rfl ?_
      refine x_iload_n hO dX1_copyFrom_41 rfl rfl ?_
      refine x_iald hO (by decide) rfl (by decide) (rfl) (hi) dX1_copyFrom_42 ?_
      refine x_iast hO (by decide) rfl (by decide) (rfl) (hi) dX1_copyFrom_43 ?_
      refine x_aload_n hO dX1_copyFrom_44 rfl rfl ?_
      refine x_getR (T := TX1) (j := 3) hO dX1_copyFrom_45 flX1_21 (by decide) rfl rfl (by decide) rfl rfl ?_
      refine x_iload_n hO dX1_copyFrom_48 rfl rfl ?_
      refine x_aload_n hO dX1_copyFrom_49 rfl rfl ?_
      refine x_getR (T := TX1) (j := 3) hO dX1_copyFrom_50 flX1_21 (by decide) rfl rfl (by decide) rfl rfl ?_
      refine x_iload_n hO dX1_copyFrom_53 rfl rfl ?_
      refine x_iald hO (by decide) rfl (by decide) (rfl) (hi) dX1_copyFrom_54 ?_
      refine x_iast hO (by decide) rfl (by decide) (rfl) (hi) dX1_copyFrom_55 ?_
      refine x_aload_n hO dX1_copyFrom_56 rfl rfl ?_
      refine x_getR (T := TX1) (j := 4) hO dX1_copyFrom_57 flX1_24 (by decide) rfl rfl (by decide) rfl rfl ?_
      refine x_iload_n hO dX1_copyFrom_60 rfl rfl ?_
      refine x_aload_n hO dX1_copyFrom_61 rfl rfl ?_
      refine x_getR (T := TX1) (j := 4) hO dX1_copyFrom_62 flX1_24 (by decide) rfl rfl (by decide) rfl rfl ?_
      refine x_iload_n hO dX1_copyFrom_65 rfl rfl ?_
      refine x_iald hO (by decide) rfl (by decide) (rfl) (hi) dX1_copyFrom_66 ?_
      refine x_iast hO (by decide) rfl (by decide) (rfl) (hi) dX1_copyFrom_67 ?_
      refine x_aload_n hO dX1_copyFrom_68 rfl rfl ?_
      refine x_getR (T := TX1) (j := 5) hO dX1_copyFrom_69 flX1_27 (by decide) rfl rfl (by decide) rfl rfl ?_
      refine x_iload_n hO dX1_copyFrom_72 rfl rfl ?_
      refine x_aload_n hO dX1_copyFrom_73 rfl rfl ?_
      refine x_getR (T := TX1) (j := 5) hO dX1_copyFrom_74 flX1_27 (by decide) rfl rfl (by decide) rfl rfl ?_
      refine x_iload_n hO dX1_copyFrom_77 rfl rfl ?_
      refine x_iald hO (by decide) rfl (by decide) (rfl) (hi) dX1_copyFrom_78 ?_
      refine x_iast hO (by decide) rfl (by decide) (rfl) (hi) dX1_copyFrom_79 ?_
      refine x_aload_n hO dX1_copyFrom_80 rfl rfl ?_
      refine x_getR (T := TX1) (j := 6) hO dX1_copyFrom_81 flX1_30 (by decide) rfl rfl (by decide) rfl rfl ?_
      refine x_iload_n hO dX1_copyFrom_84 rfl rfl ?_
      refine x_aload_n hO dX1_copyFrom_85 rfl rfl ?_
      refine x_getR (T := TX1) (j := 6) hO dX1_copyFrom_86 flX1_30 (by decide) rfl rfl (by decide) rfl rfl ?_
      refine x_iload_n hO dX1_copyFrom_89 rfl rfl ?_
      refine x_iald hO (by decide) rfl (by decide) (rfl) (hi) dX1_copyFrom_90 ?_
      refine x_iast hO (by decide) rfl (by decide) (rfl) (hi) dX1_copyFrom_91 ?_
      refine x_iinc hO dX1_copyFrom_92 rfl (by first | exact xinc_n _ | rfl) rfl hN ?_
      refine x_goto (tgt := 2) hO dX1_copyFrom_95 (by decide) ?_
      refine ih _ (cpR_s h1 (all7 ?_ ?_ ?_ ?_ ?_ ?_ ?_) (all7 ?_ ?_ ?_ ?_ ?_ ?_ ?_) (fun k hk => ?_))
      all_goals first
        | (simp [xset_at, g17, g18, g19, g20, g21, g22, g23]; done)
        | (intro s hs; simp [xset_at, hs]; done)
        | skip
      have h25 : ¬ k = 25 := by omega
      have h26 : ¬ k = 26 := by omega
      have h27 : ¬ k = 27 := by omega
      have h28 : ¬ k = 28 := by omega
      have h29 : ¬ k = 29 := by omega
      have h30 : ¬ k = 30 := by omega
      have h31 : ¬ k = 31 := by omega
      funext a
      simp [xset_at, h25, h26, h27, h28, h29, h30, h31]
theorem k_copyFrom_32_16 (U : xP) (M : xM) : xMetV U mX1_copyFrom [.inr 32, .inr 16] M (fun M' => cpSt M M' 32 16) := by
  refine xMetV.of (L := [some (.inr 32), some (.inr 16), none]) fX1_copyFrom rfl rfl (Nat.le_of_ble_eq_true rfl) (fun G hN hO hR => ?_)
  have hN : G.2.2.2.2.2.2.2.2.2.2.1 = 3 := hN
  have hO : xOK U G RX1 cX1_copyFrom 0 := hO
  refine x_iconst (v := nI 0) hO dX1_copyFrom_0 rfl ?_
  refine x_istore_n (n := 3) hO dX1_copyFrom_1 rfl rfl (by decide) hN ?_
  refine upd_ind (P := fun i _ => ∀ M1, cpR M M1 32 16 i → XW U G 2 [some (.inr 32), some (.inr 16), some (.inl (nI i))] [] M1) 32 ?_ ?_ 32 0 rfl M ⟨fun w _ s hs => by omega, fun k _ => rfl⟩
  · intro M1 h1
    refine x_iload_n hO dX1_copyFrom_2 rfl rfl ?_
    refine x_bipush (v := nI 32) hO dX1_copyFrom_3 rfl ?_
    refine x_icmp_ge (tgt := 98) hO dX1_copyFrom_5 (by decide) (fun c => ?_) (fun c => ?_)
    · refine x_aload_n hO dX1_copyFrom_98 rfl rfl ?_
      refine x_aload_n hO dX1_copyFrom_99 rfl rfl ?_
      refine x_getI (T := TX1) (j := 7) hO dX1_copyFrom_100 flX1_33 (by decide) rfl rfl (by decide) rfl rfl ?_
      refine x_put (T := TX1) (j := 7) (ty := .int) hO dX1_copyFrom_103 flX1_33 (by decide) rfl rfl (by decide) rfl rfl rfl (by decide +kernel) rfl rfl ?_
      refine x_aload_n hO dX1_copyFrom_106 rfl rfl ?_
      refine x_aload_n hO dX1_copyFrom_107 rfl rfl ?_
      refine x_getI (T := TX1) (j := 8) hO dX1_copyFrom_108 flX1_37 (by decide) rfl rfl (by decide) rfl rfl ?_
      refine x_put (T := TX1) (j := 8) (ty := .int) hO dX1_copyFrom_111 flX1_37 (by decide) rfl rfl (by decide) rfl rfl rfl (by decide +kernel) rfl rfl ?_
      refine x_aload_n hO dX1_copyFrom_114 rfl rfl ?_
      refine x_aload_n hO dX1_copyFrom_115 rfl rfl ?_
      refine x_getI (T := TX1) (j := 9) hO dX1_copyFrom_116 flX1_40 (by decide) rfl rfl (by decide) rfl rfl ?_
      refine x_put (T := TX1) (j := 9) (ty := .int) hO dX1_copyFrom_119 flX1_40 (by decide) rfl rfl (by decide) rfl rfl rfl (by decide +kernel) rfl rfl ?_
      refine x_aload_n hO dX1_copyFrom_122 rfl rfl ?_
      refine x_aload_n hO dX1_copyFrom_123 rfl rfl ?_
      refine x_getI (T := TX1) (j := 10) hO dX1_copyFrom_124 flX1_43 (by decide) rfl rfl (by decide) rfl rfl ?_
      refine x_put (T := TX1) (j := 10) (ty := .int) hO dX1_copyFrom_127 flX1_43 (by decide) rfl rfl (by decide) rfl rfl rfl (by decide +kernel) rfl rfl ?_
      refine x_aload_n hO dX1_copyFrom_130 rfl rfl ?_
      refine x_aload_n hO dX1_copyFrom_131 rfl rfl ?_
      refine x_getI (T := TX1) (j := 11) hO dX1_copyFrom_132 flX1_46 (by decide) rfl rfl (by decide) rfl rfl ?_
      refine x_put (T := TX1) (j := 11) (ty := .int) hO dX1_copyFrom_135 flX1_46 (by decide) rfl rfl (by decide) rfl rfl rfl (by decide +kernel) rfl rfl ?_
      refine x_vret hO hR dX1_copyFrom_138 ?_
      have gp : M1 32 = M 32 := h1.2 _ (by omega)
      have gq : M1 16 = M 16 := h1.2 _ (by omega)
      refine ⟨cA_ext (fun s hs => ?_) (fun s hs => cA_ge hs), all5 ?_ ?_ ?_ ?_ ?_, fun k hk => ?_⟩
      · refine cA_row hs hs (fun w hw => ?_)
        have e := h1.1 w hw s hs
        have n0 : ¬ 32 + 1 + w = 32 := by omega
        simp only [xset_at, n0, if_false]
        exact e
      · simp [xset_at, gp, gq]
      · simp [xset_at, gp, gq]
      · simp [xset_at, gp, gq]
      · simp [xset_at, gp, gq]
      · simp [xset_at, gp, gq]
      · have n0 : ¬ k = 32 := by omega
        funext a
        simp only [xset_at, n0, if_false]
        rw [h1.2 k (by omega)]
    · exact absurd (Int32.le_refl _) c
  · intro i d hd ih M1 h1
    have hi : i < 32 := by omega
    have g17 : M1 17 = M 17 := h1.2 _ (by omega)
    have g18 : M1 18 = M 18 := h1.2 _ (by omega)
    have g19 : M1 19 = M 19 := h1.2 _ (by omega)
    have g20 : M1 20 = M 20 := h1.2 _ (by omega)
    have g21 : M1 21 = M 21 := h1.2 _ (by omega)
    have g22 : M1 22 = M 22 := h1.2 _ (by omega)
    have g23 : M1 23 = M 23 := h1.2 _ (by omega)
    refine x_iload_n hO dX1_copyFrom_2 rfl rfl ?_
    refine x_bipush (v := nI 32) hO dX1_copyFrom_3 rfl ?_
    refine x_icmp_ge (tgt := 98) hO dX1_copyFrom_5 (by decide) (fun c => ?_) (fun c => ?_)
    · exact absurd c (nI_ge hi (by decide))
    · refine x_aload_n hO dX1_copyFrom_8 rfl rfl ?_
      refine x_getR (T := TX1) (j := 0) hO dX1_copyFrom_9 flX1_9 (by decide) rfl rfl (by decide) rfl rfl ?_
      refine x_iload_n hO dX1_copyFrom_12 rfl rfl ?_
      refine x_aload_n hO dX1_copyFrom_13 rfl rfl ?_
      refine x_getR (T := TX1) (j := 0) hO dX1_copyFrom_14 flX1_9 (by decide) rfl rfl (by decide) rfl rfl ?_
      refine x_iload_n hO dX1_copyFrom_17 rfl rfl ?_
      refine x_iald hO (by decide) rfl (by decide) (rfl) (hi) dX1_copyFrom_18 ?_
      refine x_iast hO (by decide) rfl (by decide) (rfl) (hi) dX1_copyFrom_19 ?_
      refine x_aload_n hO dX1_copyFrom_20 rfl rfl ?_
      refine x_getR (T := TX1) (j := 1) hO dX1_copyFrom_21 flX1_15 (by decide) rfl rfl (by decide) rfl rfl ?_
      refine x_iload_n hO dX1_copyFrom_24 rfl rfl ?_
      refine x_aload_n hO dX1_copyFrom_25 rfl rfl ?_
      refine x_getR (T := TX1) (j := 1) hO dX1_copyFrom_26 flX1_15 (by decide) rfl rfl (by decide) rfl rfl ?_
      refine x_iload_n hO dX1_copyFrom_29 rfl rfl ?_
      refine x_iald hO (by decide) rfl (by decide) (rfl) (hi) dX1_copyFrom_30 ?_
      refine x_iast hO (by decide) rfl (by decide) (rfl) (hi) dX1_copyFrom_31 ?_
      refine x_aload_n hO dX1_copyFrom_32 rfl rfl ?_
      refine x_getR (T := TX1) (j := 2) hO dX1_copyFrom_33 flX1_18 (by decide) rfl rfl (by decide) rfl rfl ?_
      refine x_iload_n hO dX1_copyFrom_36 rfl rfl ?_
      refine x_aload_n hO dX1_copyFrom_37 rfl rfl ?_
      refine x_getR (T := TX1) (j := 2) hO dX1_copyFrom_38 flX1_18 (by decide) rfl rfl (by decide) rfl rfl ?_
      refine x_iload_n hO dX1_copyFrom_41 rfl rfl ?_
      refine x_iald hO (by decide) rfl (by decide) (rfl) (hi) dX1_copyFrom_42 ?_
      refine x_iast hO (by decide) rfl (by decide) (rfl) (hi) dX1_copyFrom_43 ?_
      refine x_aload_n hO dX1_copyFrom_44 rfl rfl ?_
      refine x_getR (T := TX1) (j := 3) hO dX1_copyFrom_45 flX1_21 (by decide) rfl rfl (by decide) rfl rfl ?_
      refine x_iload_n hO dX1_copyFrom_48 rfl rfl ?_
      refine x_aload_n hO dX1_copyFrom_49 rfl rfl ?_
      refine x_getR (T := TX1) (j := 3) hO dX1_copyFrom_50 flX1_21 (by decide) rfl rfl (by decide) rfl rfl ?_
      refine x_iload_n hO dX1_copyFrom_53 rfl rfl ?_
      refine x_iald hO (by decide) rfl (by decide) (rfl) (hi) dX1_copyFrom_54 ?_
      refine x_iast hO (by decide) rfl (by decide) (rfl) (hi) dX1_copyFrom_55 ?_
      refine x_aload_n hO dX1_copyFrom_56 rfl rfl ?_
      refine x_getR (T := TX1) (j := 4) hO dX1_copyFrom_57 flX1_24 (by decide) rfl rfl (by decide) rfl rfl ?_
      refine x_iload_n hO dX1_copyFrom_60 rfl rfl ?_
      refine x_aload_n hO dX1_copyFrom_61 rfl rfl ?_
      refine x_getR (T := TX1) (j := 4) hO dX1_copyFrom_62 flX1_24 (by decide) rfl rfl (by decide) rfl rfl ?_
      refine x_iload_n hO dX1_copyFrom_65 rfl rfl ?_
      refine x_iald hO (by decide) rfl (by decide) (rfl) (hi) dX1_copyFrom_66 ?_
      refine x_iast hO (by decide) rfl (by decide) (rfl) (hi) dX1_copyFrom_67 ?_
      refine x_aload_n hO dX1_copyFrom_68 rfl rfl ?_
      refine x_getR (T := TX1) (j := 5) hO dX1_copyFrom_69 flX1_27 (by decide) rfl rfl (by decide) rfl rfl ?_
      refine x_iload_n hO dX1_copyFrom_72 rfl rfl ?_
      refine x_aload_n hO dX1_copyFrom_73 rfl rfl ?_
      refine x_getR (T := TX1) (j := 5) hO dX1_copyFrom_74 flX1_27 (by decide) rfl rfl (by decide) rfl rfl ?_
      refine x_iload_n hO dX1_copyFrom_77 rfl rfl ?_
      refine x_iald hO (by decide) rfl (by decide) (rfl) (hi) dX1_copyFrom_78 ?_
      refine x_iast hO (by decide) rfl (by decide) (rfl) (hi) dX1_copyFrom_79 ?_
      refine x_aload_n hO dX1_copyFrom_80 rfl rfl ?_
      refine x_getR (T := TX1) (j := 6) hO dX1_copyFrom_81 flX1_30 (by decide) rfl rfl (by decide) rfl rfl ?_
      refine x_iload_n hO dX1_copyFrom_84 rfl rfl ?_
      refine x_aload_n hO dX1_copyFrom_85 rfl rfl ?_
      refine x_getR (T := TX1) (j := 6) hO dX1_copyFrom_86 flX1_30 (by decide) rfl rfl (by decide) rfl rfl ?_
      refine x_iload_n hO dX1_copyFrom_89 rfl rfl ?_
      refine x_iald hO (by decide) rfl (by decide) (rfl) (hi) dX1_copyFrom_90 ?_
      refine x_iast hO (by decide) rfl (by decide) (rfl) (hi) dX1_copyFrom_91 ?_
      refine x_iinc hO dX1_copyFrom_92 rfl (by first | exact xinc_n _ | rfl) rfl hN ?_
      refine x_goto (tgt := 2) hO dX1_copyFrom_95 (by decide) ?_
      refine ih _ (cpR_s h1 (all7 ?_ ?_ ?_ ?_ ?_ ?_ ?_) (all7 ?_ ?_ ?_ ?_ ?_ ?_ ?_) (fun k hk => ?_))
      all_goals first
        | (simp [xset_at, g17, g18, g19, g20, g21, g22, g23]; done)
        | (intro s hs; simp [xset_at, hs]; done)
        | skip
      have h33 : ¬ k = 33 := by omega
      have h34 : ¬ k = 34 := by omega
      have h35 : ¬ k = 35 := by omega
      have h36 : ¬ k = 36 := by omega
      have h37 : ¬ k = 37 := by omega
      have h38 : ¬ k = 38 := by omega
      have h39 : ¬ k = 39 := by omega
      funext a
      simp [xset_at, h33, h34, h35, h36, h37, h38, h39]
theorem k_copyFrom_40_16 (U : xP) (M : xM) : xMetV U mX1_copyFrom [.inr 40, .inr 16] M (fun M' => cpSt M M' 40 16) := by
  refine xMetV.of (L := [some (.inr 40), some (.inr 16), none]) fX1_copyFrom rfl rfl (Nat.le_of_ble_eq_true rfl) (fun G hN hO hR => ?_)
  have hN : G.2.2.2.2.2.2.2.2.2.2.1 = 3 := hN
  have hO : xOK U G RX1 cX1_copyFrom 0 := hO
  refine x_iconst (v := nI 0) hO dX1_copyFrom_0 rfl ?_
  refine x_istore_n (n := 3) hO dX1_copyFrom_1 rfl rfl (by decide) hN ?_
  refine upd_ind (P := fun i _ => ∀ M1, cpR M M1 40 16 i → XW U G 2 [some (.inr 40), some (.inr 16), some (.inl (nI i))] [] M1) 32 ?_ ?_ 32 0 rfl M ⟨fun w _ s hs => by omega, fun k _ => rfl⟩
  · intro M1 h1
    refine x_iload_n hO dX1_copyFrom_2 rfl rfl ?_
    refine x_bipush (v := nI 32) hO dX1_copyFrom_3 rfl ?_
    refine x_icmp_ge (tgt := 98) hO dX1_copyFrom_5 (by decide) (fun c => ?_) (fun c => ?_)
    · refine x_aload_n hO dX1_copyFrom_98 rfl rfl ?_
      refine x_aload_n hO dX1_copyFrom_99 rfl rfl ?_
      refine x_getI (T := TX1) (j := 7) hO dX1_copyFrom_100 flX1_33 (by decide) rfl rfl (by decide) rfl rfl ?_
      refine x_put (T := TX1) (j := 7) (ty := .int) hO dX1_copyFrom_103 flX1_33 (by decide) rfl rfl (by decide) rfl rfl rfl (by decide +kernel) rfl rfl ?_
      refine x_aload_n hO dX1_copyFrom_106 rfl rfl ?_
      refine x_aload_n hO dX1_copyFrom_107 rfl rfl ?_
      refine x_getI (T := TX1) (j := 8) hO dX1_copyFrom_108 flX1_37 (by decide) rfl rfl (by decide) rfl rfl ?_
      refine x_put (T := TX1) (j := 8) (ty := .int) hO dX1_copyFrom_111 flX1_37 (by decide) rfl rfl (by decide) rfl rfl rfl (by decide +kernel) rfl rfl ?_
      refine x_aload_n hO dX1_copyFrom_114 rfl rfl ?_
      refine x_aload_n hO dX1_copyFrom_115 rfl rfl ?_
      refine x_getI (T := TX1) (j := 9) hO dX1_copyFrom_116 flX1_40 (by decide) rfl rfl (by decide) rfl rfl ?_
      refine x_put (T := TX1) (j := 9) (ty := .int) hO dX1_copyFrom_119 flX1_40 (by decide) rfl rfl (by decide) rfl rfl rfl (by decide +kernel) rfl rfl ?_
      refine x_aload_n hO dX1_copyFrom_122 rfl rfl ?_
      refine x_aload_n hO dX1_copyFrom_123 rfl rfl ?_
      refine x_getI (T := TX1) (j := 10) hO dX1_copyFrom_124 flX1_43 (by decide) rfl rfl (by decide) rfl rfl ?_
      refine x_put (T := TX1) (j := 10) (ty := .int) hO dX1_copyFrom_127 flX1_43 (by decide) rfl rfl (by decide) rfl rfl rfl (by decide +kernel) rfl rfl ?_
      refine x_aload_n hO dX1_copyFrom_130 rfl rfl ?_
      refine x_aload_n hO dX1_copyFrom_131 rfl rfl ?_
      refine x_getI (T := TX1) (j := 11) hO dX1_copyFrom_132 flX1_46 (by decide) rfl rfl (by decide) rfl rfl ?_
      refine x_put (T := TX1) (j := 11) (ty := .int) hO dX1_copyFrom_135 flX1_46 (by decide) rfl rfl (by decide) rfl rfl rfl (by decide +kernel) rfl rfl ?_
      refine x_vret hO hR dX1_copyFrom_138 ?_
      have gp : M1 40 = M 40 := h1.2 _ (by omega)
      have gq : M1 16 = M 16 := h1.2 _ (by omega)
      refine ⟨cA_ext (fun s hs => ?_) (fun s hs => cA_ge hs), all5 ?_ ?_ ?_ ?_ ?_, fun k hk => ?_⟩
      · refine cA_row hs hs (fun w hw => ?_)
        have e := h1.1 w hw s hs
        have n0 : ¬ 40 + 1 + w = 40 := by omega
        simp only [xset_at, n0, if_false]
        exact e
      · simp [xset_at, gp, gq]
      · simp [xset_at, gp, gq]
      · simp [xset_at, gp, gq]
      · simp [xset_at, gp, gq]
      · simp [xset_at, gp, gq]
      · have n0 : ¬ k = 40 := by omega
        funext a
        simp only [xset_at, n0, if_false]
        rw [h1.2 k (by omega)]
    · exact absurd (Int32.le_refl _) c
  · intro i d hd ih M1 h1
    have hi : i < 32 := by omega
    have g17 : M1 17 = M 17 := h1.2 _ (by omega)
    have g18 : M1 18 = M 18 := h1.2 _ (by omega)
    have g19 : M1 19 = M 19 := h1.2 _ (by omega)
    have g20 : M1 20 = M 20 := h1.2 _ (by omega)
    have g21 : M1 21 = M 21 := h1.2 _ (by omega)
    have g22 : M1 22 = M 22 := h1.2 _ (by omega)
    have g23 : M1 23 = M 23 := h1.2 _ (by omega)
    refine x_iload_n hO dX1_copyFrom_2 rfl rfl ?_
    refine x_bipush (v := nI 32) hO dX1_copyFrom_3 rfl ?_
    refine x_icmp_ge (tgt := 98) hO dX1_copyFrom_5 (by decide) (fun c => ?_) (fun c => ?_)
    · exact absurd c (nI_ge hi (by decide))
    · refine x_aload_n hO dX1_copyFrom_8 rfl rfl ?_
      refine x_getR (T := TX1) (j := 0) hO dX1_copyFrom_9 flX1_9 (by decide) rfl rfl (by decide) rfl rfl ?_
      refine x_iload_n hO dX1_copyFrom_12 rfl rfl ?_
      refine x_aload_n hO dX1_copyFrom_13 rfl rfl ?_
      refine x_getR (T := TX1) (j := 0) hO dX1_copyFrom_14 flX1_9 (by decide) rfl rfl (by decide) rfl rfl ?_
      refine x_iload_n hO dX1_copyFrom_17 rfl rfl ?_
      refine x_iald hO (by decide) rfl (by decide) (rfl) (hi) dX1_copyFrom_18 ?_
      refine x_iast hO (by decide) rfl (by decide) (rfl) (hi) dX1_copyFrom_19 ?_
      refine x_aload_n hO dX1_copyFrom_20 rfl rfl ?_
      refine x_getR (T := TX1) (j := 1) hO dX1_copyFrom_21 flX1_15 (by decide) rfl rfl (by decide) rfl rfl ?_
      refine x_iload_n hO dX1_copyFrom_24 rfl rfl ?_
      refine x_aload_n hO dX1_copyFrom_25 rfl rfl ?_
      refine x_getR (T := TX1) (j := 1) hO dX1_copyFrom_26 flX1_15 (by decide) rfl rfl (by decide) rfl rfl ?_
      refine x_iload_n hO dX1_copyFrom_29 rfl rfl ?_
      refine x_iald hO (by decide) rfl (by decide) (rfl) (hi) dX1_copyFrom_30 ?_
      refine x_iast hO (by decide) rfl (by decide) (rfl) (hi) dX1_copyFrom_31 ?_
      refine x_aload_n hO dX1_copyFrom_32 rfl rfl ?_
      refine x_getR (T := TX1) (j := 2) hO dX1_copyFrom_33 flX1_18 (by decide) rfl rfl (by decide) rfl rfl ?_
      refine x_iload_n hO dX1_copyFrom_36 rfl rfl ?_
      refine x_aload_n hO dX1_copyFrom_37 rfl rfl ?_
      refine x_getR (T := TX1) (j := 2) hO dX1_copyFrom_38 flX1_18 (by decide) rfl rfl (by decide) rfl rfl ?_
      refine x_iload_n hO dX1_copyFrom_41 rfl rfl ?_
      refine x_iald hO (by decide) rfl (by decide) (rfl) (hi) dX1_copyFrom_42 ?_
      refine x_iast hO (by decide) rfl (by decide) (rfl) (hi) dX1_copyFrom_43 ?_
      refine x_aload_n hO dX1_copyFrom_44 rfl rfl ?_
      refine x_getR (T := TX1) (j := 3) hO dX1_copyFrom_45 flX1_21 (by decide) rfl rfl (by decide) rfl rfl ?_
      refine x_iload_n hO dX1_copyFrom_48 rfl rfl ?_
      refine x_aload_n hO dX1_copyFrom_49 rfl rfl ?_
      refine x_getR (T := TX1) (j := 3) hO dX1_copyFrom_50 flX1_21 (by decide) rfl rfl (by decide) rfl rfl ?_
      refine x_iload_n hO dX1_copyFrom_53 rfl rfl ?_
      refine x_iald hO (by decide) rfl (by decide) (rfl) (hi) dX1_copyFrom_54 ?_
      refine x_iast hO (by decide) rfl (by decide) (rfl) (hi) dX1_copyFrom_55 ?_
      refine x_aload_n hO dX1_copyFrom_56 rfl rfl ?_
      refine x_getR (T := TX1) (j := 4) hO dX1_copyFrom_57 flX1_24 (by decide) rfl rfl (by decide) rfl rfl ?_
      refine x_iload_n hO dX1_copyFrom_60 rfl rfl ?_
      refine x_aload_n hO dX1_copyFrom_61 rfl rfl ?_
      refine x_getR (T := TX1) (j := 4) hO dX1_copyFrom_62 flX1_24 (by decide) rfl rfl (by decide) rfl rfl ?_
      refine x_iload_n hO dX1_copyFrom_65 rfl rfl ?_
      refine x_iald hO (by decide) rfl (by decide) (rfl) (hi) dX1_copyFrom_66 ?_
      refine x_iast hO (by decide) rfl (by decide) (rfl) (hi) dX1_copyFrom_67 ?_
      refine x_aload_n hO dX1_copyFrom_68 rfl rfl ?_
      refine x_getR (T := TX1) (j := 5) hO dX1_copyFrom_69 flX1_27 (by decide) rfl rfl (by decide) rfl rfl ?_
      refine x_iload_n hO dX1_copyFrom_72 rfl rfl ?_
      refine x_aload_n hO dX1_copyFrom_73 rfl rfl ?_
      refine x_getR (T := TX1) (j := 5) hO dX1_copyFrom_74 flX1_27 (by decide) rfl rfl (by decide) rfl rfl ?_
      refine x_iload_n hO dX1_copyFrom_77 rfl rfl ?_
      refine x_iald hO (by decide) rfl (by decide) (rfl) (hi) dX1_copyFrom_78 ?_
      refine x_iast hO (by decide) rfl (by decide) (rfl) (hi) dX1_copyFrom_79 ?_
      refine x_aload_n hO dX1_copyFrom_80 rfl rfl ?_
      refine x_getR (T := TX1) (j := 6) hO dX1_copyFrom_81 flX1_30 (by decide) rfl rfl (by decide) rfl rfl ?_
      refine x_iload_n hO dX1_copyFrom_84 rfl rfl ?_
      refine x_aload_n hO dX1_copyFrom_85 rfl rfl ?_
      refine x_getR (T := TX1) (j := 6) hO dX1_copyFrom_86 flX1_30 (by decide) rfl rfl (by decide) rfl rfl ?_
      refine x_iload_n hO dX1_copyFrom_89 rfl rfl ?_
      refine x_iald hO (by decide) rfl (by decide) (rfl) (hi) dX1_copyFrom_90 ?_
      refine x_iast hO (by decide) rfl (by decide) (rfl) (hi) dX1_copyFrom_91 ?_
      refine x_iinc hO dX1_copyFrom_92 rfl (by first | exact xinc_n _ | rfl) rfl hN ?_
      refine x_goto (tgt := 2) hO dX1_copyFrom_95 (by decide) ?_
      refine ih _ (cpR_s h1 (all7 ?_ ?_ ?_ ?_ ?_ ?_ ?_) (all7 ?_ ?_ ?_ ?_ ?_ ?_ ?_) (fun k hk => ?_))
      all_goals first
        | (simp [xset_at, g17, g18, g19, g20, g21, g22, g23]; done)
        | (intro s hs; simp [xset_at, hs]; done)
        | skip
      have h41 : ¬ k = 41 := by omega
      have h42 : ¬ k = 42 := by omega
      have h43 : ¬ k = 43 := by omega
      have h44 : ¬ k = 44 := by omega
      have h45 : ¬ k = 45 := by omega
      have h46 : ¬ k = 46 := by omega
      have h47 : ¬ k = 47 := by omega
      funext a
      simp [xset_at, h41, h42, h43, h44, h45, h46, h47]
theorem k_copyFrom_48_16 (U : xP) (M : xM) : xMetV U mX1_copyFrom [.inr 48, .inr 16] M (fun M' => cpSt M M' 48 16) := by
  refine xMetV.of (L := [some (.inr 48), some (.inr 16), none]) fX1_copyFrom rfl rfl (Nat.le_of_ble_eq_true rfl) (fun G hN hO hR => ?_)
  have hN : G.2.2.2.2.2.2.2.2.2.2.1 = 3 := hN
  have hO : xOK U G RX1 cX1_copyFrom 0 := hO
  refine x_iconst (v := nI 0) hO dX1_copyFrom_0 rfl ?_
  refine x_istore_n (n := 3) hO dX1_copyFrom_1 rfl rfl (by decide) hN ?_
  refine upd_ind (P := fun i _ => ∀ M1, cpR M M1 48 16 i → XW U G 2 [some (.inr 48), some (.inr 16), some (.inl (nI i))] [] M1) 32 ?_ ?_ 32 0 rfl M ⟨fun w _ s hs => by omega, fun k _ => rfl⟩
  · intro M1 h1
    refine x_iload_n hO dX1_copyFrom_2 rfl rfl ?_
    refine x_bipush (v := nI 32) hO dX1_copyFrom_3 rfl ?_
    refine x_icmp_ge (tgt := 98) hO dX1_copyFrom_5 (by decide) (fun c => ?_) (fun c => ?_)
    · refine x_aload_n hO dX1_copyFrom_98 rfl rfl ?_
      refine x_aload_n hO dX1_copyFrom_99 rfl rfl ?_
      refine x_getI (T := TX1) (j := 7) hO dX1_copyFrom_100 flX1_33 (by decide) rfl rfl (by decide) rfl rfl ?_
      refine x_put (T := TX1) (j := 7) (ty := .int) hO dX1_copyFrom_103 flX1_33 (by decide) rfl rfl (by decide) rfl rfl rfl (by decide +kernel) rfl rfl ?_
      refine x_aload_n hO dX1_copyFrom_106 rfl rfl ?_
      refine x_aload_n hO dX1_copyFrom_107 rfl rfl ?_
      refine x_getI (T := TX1) (j := 8) hO dX1_copyFrom_108 flX1_37 (by decide) rfl rfl (by decide) rfl rfl ?_
      refine x_put (T := TX1) (j := 8) (ty := .int) hO dX1_copyFrom_111 flX1_37 (by decide) rfl rfl (by decide) rfl rfl rfl (by decide +kernel) rfl rfl ?_
      refine x_aload_n hO dX1_copyFrom_114 rfl rfl ?_
      refine x_aload_n hO dX1_copyFrom_115 rfl rfl ?_
      refine x_getI (T := TX1) (j := 9) hO dX1_copyFrom_116 flX1_40 (by decide) rfl rfl (by decide) rfl rfl ?_
      refine x_put (T := TX1) (j := 9) (ty := .int) hO dX1_copyFrom_119 flX1_40 (by decide) rfl rfl (by decide) rfl rfl rfl (by decide +kernel) rfl rfl ?_
      refine x_aload_n hO dX1_copyFrom_122 rfl rfl ?_
      refine x_aload_n hO dX1_copyFrom_123 rfl rfl ?_
      refine x_getI (T := TX1) (j := 10) hO dX1_copyFrom_124 flX1_43 (by decide) rfl rfl (by decide) rfl rfl ?_
      refine x_put (T := TX1) (j := 10) (ty := .int) hO dX1_copyFrom_127 flX1_43 (by decide) rfl rfl (by decide) rfl rfl rfl (by decide +kernel) rfl rfl ?_
      refine x_aload_n hO dX1_copyFrom_130 rfl rfl ?_
      refine x_aload_n hO dX1_copyFrom_131 rfl rfl ?_
      refine x_getI (T := TX1) (j := 11) hO dX1_copyFrom_132 flX1_46 (by decide) rfl rfl (by decide) rfl rfl ?_
      refine x_put (T := TX1) (j := 11) (ty := .int) hO dX1_copyFrom_135 flX1_46 (by decide) rfl rfl (by decide) rfl rfl rfl (by decide +kernel) rfl rfl ?_
      refine x_vret hO hR dX1_copyFrom_138 ?_
      have gp : M1 48 = M 48 := h1.2 _ (by omega)
      have gq : M1 16 = M 16 := h1.2 _ (by omega)
      refine ⟨cA_ext (fun s hs => ?_) (fun s hs => cA_ge hs), all5 ?_ ?_ ?_ ?_ ?_, fun k hk => ?_⟩
      · refine cA_row hs hs (fun w hw => ?_)
        have e := h1.1 w hw s hs
        have n0 : ¬ 48 + 1 + w = 48 := by omega
        simp only [xset_at, n0, if_false]
        exact e
      · simp [xset_at, gp, gq]
      · simp [xset_at, gp, gq]
      · simp [xset_at, gp, gq]
      · simp [xset_at, gp, gq]
      · simp [xset_at, gp, gq]
      · have n0 : ¬ k = 48 := by omega
        funext a
        simp only [xset_at, n0, if_false]
        rw [h1.2 k (by omega)]
    · exact absurd (Int32.le_refl _) c
  · intro i d hd ih M1 h1
    have hi : i < 32 := by omega
    have g17 : M1 17 = M 17 := h1.2 _ (by omega)
    have g18 : M1 18 = M 18 := h1.2 _ (by omega)
    have g19 : M1 19 = M 19 := h1.2 _ (by omega)
    have g20 : M1 20 = M 20 := h1.2 _ (by omega)
    have g21 : M1 21 = M 21 := h1.2 _ (by omega)
    have g22 : M1 22 = M 22 := h1.2 _ (by omega)
    have g23 : M1 23 = M 23 := h1.2 _ (by omega)
    refine x_iload_n hO dX1_copyFrom_2 rfl rfl ?_
    refine x_bipush (v := nI 32) hO dX1_copyFrom_3 rfl ?_
    refine x_icmp_ge (tgt := 98) hO dX1_copyFrom_5 (by decide) (fun c => ?_) (fun c => ?_)
    · exact absurd c (nI_ge hi (by decide))
    · refine x_aload_n hO dX1_copyFrom_8 rfl rfl ?_
      refine x_getR (T := TX1) (j := 0) hO dX1_copyFrom_9 flX1_9 (by decide) rfl rfl (by decide) rfl rfl ?_
      refine x_iload_n hO dX1_copyFrom_12 rfl rfl ?_
      refine x_aload_n hO dX1_copyFrom_13 rfl rfl ?_
      refine x_getR (T := TX1) (j := 0) hO dX1_copyFrom_14 flX1_9 (by decide) rfl rfl (by decide) rfl rfl ?_
      refine x_iload_n hO dX1_copyFrom_17 rfl rfl ?_
      refine x_iald hO (by decide) rfl (by decide) (rfl) (hi) dX1_copyFrom_18 ?_
      refine x_iast hO (by decide) rfl (by decide) (rfl) (hi) dX1_copyFrom_19 ?_
      refine x_aload_n hO dX1_copyFrom_20 rfl rfl ?_
      refine x_getR (T := TX1) (j := 1) hO dX1_copyFrom_21 flX1_15 (by decide) rfl rfl (by decide) rfl rfl ?_
      refine x_iload_n hO dX1_copyFrom_24 rfl rfl ?_
      refine x_aload_n hO dX1_copyFrom_25 rfl rfl ?_
      refine x_getR (T := TX1) (j := 1) hO dX1_copyFrom_26 flX1_15 (by decide) rfl rfl (by decide) rfl rfl ?_
      refine x_iload_n hO dX1_copyFrom_29 rfl rfl ?_
      refine x_iald hO (by decide) rfl (by decide) (rfl) (hi) dX1_copyFrom_30 ?_
      refine x_iast hO (by decide) rfl (by decide) (rfl) (hi) dX1_copyFrom_31 ?_
      refine x_aload_n hO dX1_copyFrom_32 rfl rfl ?_
      refine x_getR (T := TX1) (j := 2) hO dX1_copyFrom_33 flX1_18 (by decide) rfl rfl (by decide) rfl rfl ?_
      refine x_iload_n hO dX1_copyFrom_36 rfl rfl ?_
      refine x_aload_n hO dX1_copyFrom_37 rfl rfl ?_
      refine x_getR (T := TX1) (j := 2) hO dX1_copyFrom_38 flX1_18 (by decide) rfl rfl (by decide) rfl rfl ?_
      refine x_iload_n hO dX1_copyFrom_41 rfl rfl ?_
      refine x_iald hO (by decide) rfl (by decide) (rfl) (hi) dX1_copyFrom_42 ?_
      refine x_iast hO (by decide) rfl (by decide) (rfl) (hi) dX1_copyFrom_43 ?_
      refine x_aload_n hO dX1_copyFrom_44 rfl rfl ?_
      refine x_getR (T := TX1) (j := 3) hO dX1_copyFrom_45 flX1_21 (by decide) rfl rfl (by decide) rfl rfl ?_
      refine x_iload_n hO dX1_copyFrom_48 rfl rfl ?_
      refine x_aload_n hO dX1_copyFrom_49 rfl rfl ?_
      refine x_getR (T := TX1) (j := 3) hO dX1_copyFrom_50 flX1_21 (by decide) rfl rfl (by decide) rfl rfl ?_
      refine x_iload_n hO dX1_copyFrom_53 rfl rfl ?_
      refine x_iald hO (by decide) rfl (by decide) (rfl) (hi) dX1_copyFrom_54 ?_
      refine x_iast hO (by decide) rfl (by decide) (rfl) (hi) dX1_copyFrom_55 ?_
      refine x_aload_n hO dX1_copyFrom_56 rfl rfl ?_
      refine x_getR (T := TX1) (j := 4) hO dX1_copyFrom_57 flX1_24 (by decide) rfl rfl (by decide) rfl rfl ?_
      refine x_iload_n hO dX1_copyFrom_60 rfl rfl ?_
      refine x_aload_n hO dX1_copyFrom_61 rfl rfl ?_
      refine x_getR (T := TX1) (j := 4) hO dX1_copyFrom_62 flX1_24 (by decide) rfl rfl (by decide) rfl rfl ?_
      refine x_iload_n hO dX1_copyFrom_65 rfl rfl ?_
      refine x_iald hO (by decide) rfl (by decide) (rfl) (hi) dX1_copyFrom_66 ?_
      refine x_iast hO (by decide) rfl (by decide) (rfl) (hi) dX1_copyFrom_67 ?_
      refine x_aload_n hO dX1_copyFrom_68 rfl rfl ?_
      refine x_getR (T := TX1) (j := 5) hO dX1_copyFrom_69 flX1_27 (by decide) rfl rfl (by decide) rfl rfl ?_
      refine x_iload_n hO dX1_copyFrom_72 rfl rfl ?_
      refine x_aload_n hO dX1_copyFrom_73 rfl rfl ?_
      refine x_getR (T := TX1) (j := 5) hO dX1_copyFrom_74 flX1_27 (by decide) rfl rfl (by decide) rfl rfl ?_
      refine x_iload_n hO dX1_copyFrom_77 rfl rfl ?_
      refine x_iald hO (by decide) rfl (by decide) (rfl) (hi) dX1_copyFrom_78 ?_
      refine x_iast hO (by decide) rfl (by decide) (rfl) (hi) dX1_copyFrom_79 ?_
      refine x_aload_n hO dX1_copyFrom_80 rfl rfl ?_
      refine x_getR (T := TX1) (j := 6) hO dX1_copyFrom_81 flX1_30 (by decide) rfl rfl (by decide) rfl rfl ?_
      refine x_iload_n hO dX1_copyFrom_84 rfl rfl ?_
      refine x_aload_n hO dX1_copyFrom_85 rfl rfl ?_
      refine x_getR (T := TX1) (j := 6) hO dX1_copyFrom_86 flX1_30 (by decide) rfl rfl (by decide) rfl rfl ?_
      refine x_iload_n hO dX1_copyFrom_89 rfl rfl ?_
      refine x_iald hO (by decide) rfl (by decide) (rfl) (hi) dX1_copyFrom_90 ?_
      refine x_iast hO (by decide) rfl (by decide) (rfl) (hi) dX1_copyFrom_91 ?_
      refine x_iinc hO dX1_copyFrom_92 rfl (by first | exact xinc_n _ | rfl) rfl hN ?_
      refine x_goto (tgt := 2) hO dX1_copyFrom_95 (by decide) ?_
      refine ih _ (cpR_s h1 (all7 ?_ ?_ ?_ ?_ ?_ ?_ ?_) (all7 ?_ ?_ ?_ ?_ ?_ ?_ ?_) (fun k hk => ?_))
      all_goals first
        | (simp [xset_at, g17, g18, g19, g20, g21, g22, g23]; done)
        | (intro s hs; simp [xset_at, hs]; done)
        | skip
      have h49 : ¬ k = 49 := by omega
      have h50 : ¬ k = 50 := by omega
      have h51 : ¬ k = 51 := by omega
      have h52 : ¬ k = 52 := by omega
      have h53 : ¬ k = 53 := by omega
      have h54 : ¬ k = 54 := by omega
      have h55 : ¬ k = 55 := by omega
      funext a
      simp [xset_at, h49, h50, h51, h52, h53, h54, h55]
theorem k_copyFrom_56_16 (U : xP) (M : xM) : xMetV U mX1_copyFrom [.inr 56, .inr 16] M (fun M' => cpSt M M' 56 16) := by
  refine xMetV.of (L := [some (.inr 56), some (.inr 16), none]) fX1_copyFrom rfl rfl (Nat.le_of_ble_eq_true rfl) (fun G hN hO hR => ?_)
  have hN : G.2.2.2.2.2.2.2.2.2.2.1 = 3 := hN
  have hO : xOK U G RX1 cX1_copyFrom 0 := hO
  refine x_iconst (v := nI 0) hO dX1_copyFrom_0 rfl ?_
  refine x_istore_n (n := 3) hO dX1_copyFrom_1 rfl rfl (by decide) hN ?_
  refine upd_ind (P := fun i _ => ∀ M1, cpR M M1 56 16 i → XW U G 2 [some (.inr 56), some (.inr 16), some (.inl (nI i))] [] M1) 32 ?_ ?_ 32 0 rfl M ⟨fun w _ s hs => by omega, fun k _ => rfl⟩
  · intro M1 h1
    refine x_iload_n hO dX1_copyFrom_2 rfl rfl ?_
    refine x_bipush (v := nI 32) hO dX1_copyFrom_3 rfl ?_
    refine x_icmp_ge (tgt := 98) hO dX1_copyFrom_5 (by decide) (fun c => ?_) (fun c => ?_)
    · refine x_aload_n hO dX1_copyFrom_98 rfl rfl ?_
      refine x_aload_n hO dX1_copyFrom_99 rfl rfl ?_
      refine x_getI (T := TX1) (j := 7) hO dX1_copyFrom_100 flX1_33 (by decide) rfl rfl (by decide) rfl rfl ?_
      refine x_put (T := TX1) (j := 7) (ty := .int) hO dX1_copyFrom_103 flX1_33 (by decide) rfl rfl (by decide) rfl rfl rfl (by decide +kernel) rfl rfl ?_
      refine x_aload_n hO dX1_copyFrom_106 rfl rfl ?_
      refine x_aload_n hO dX1_copyFrom_107 rfl rfl ?_
      refine x_getI (T := TX1) (j := 8) hO dX1_copyFrom_108 flX1_37 (by decide) rfl rfl (by decide) rfl rfl ?_
      refine x_put (T := TX1) (j := 8) (ty := .int) hO dX1_copyFrom_111 flX1_37 (by decide) rfl rfl (by decide) rfl rfl rfl (by decide +kernel) rfl rfl ?_
      refine x_aload_n hO dX1_copyFrom_114 rfl rfl ?_
      refine x_aload_n hO dX1_copyFrom_115 rfl rfl ?_
      refine x_getI (T := TX1) (j := 9) hO dX1_copyFrom_116 flX1_40 (by decide) rfl rfl (by decide) rfl rfl ?_
      refine x_put (T := TX1) (j := 9) (ty := .int) hO dX1_copyFrom_119 flX1_40 (by decide) rfl rfl (by decide) rfl rfl rfl (by decide +kernel) rfl rfl ?_
      refine x_aload_n hO dX1_copyFrom_122 rfl rfl ?_
      refine x_aload_n hO dX1_copyFrom_123 rfl rfl ?_
      refine x_getI (T := TX1) (j := 10) hO dX1_copyFrom_124 flX1_43 (by decide) rfl rfl (by decide) rfl rfl ?_
      refine x_put (T := TX1) (j := 10) (ty := .int) hO dX1_copyFrom_127 flX1_43 (by decide) rfl rfl (by decide) rfl rfl rfl (by decide +kernel) rfl rfl ?_
      refine x_aload_n hO dX1_copyFrom_130 rfl rfl ?_
      refine x_aload_n hO dX1_copyFrom_131 rfl rfl ?_
      refine x_getI (T := TX1) (j := 11) hO dX1_copyFrom_132 flX1_46 (by decide) rfl rfl (by decide) rfl rfl ?_
      refine x_put (T := TX1) (j := 11) (ty := .int) hO dX1_copyFrom_135 flX1_46 (by decide) rfl rfl (by decide) rfl rfl rfl (by decide +kernel) rfl rfl ?_
      refine x_vret hO hR dX1_copyFrom_138 ?_
      have gp : M1 56 = M 56 := h1.2 _ (by omega)
      have gq : M1 16 = M 16 := h1.2 _ (by omega)
      refine ⟨cA_ext (fun s hs => ?_) (fun s hs => cA_ge hs), all5 ?_ ?_ ?_ ?_ ?_, fun k hk => ?_⟩
      · refine cA_row hs hs (fun w hw => ?_)
        have e := h1.1 w hw s hs
        have n0 : ¬ 56 + 1 + w = 56 := by omega
        simp only [xset_at, n0, if_false]
        exact e
      · simp [xset_at, gp, gq]
      · simp [xset_at, gp, gq]
      · simp [xset_at, gp, gq]
      · simp [xset_at, gp, gq]
      · simp [xset_at, gp, gq]
      · have n0 : ¬ k = 56 := by omega
        funext a
        simp only [xset_at, n0, if_false]
        rw [h1.2 k (by omega)]
    · exact absurd (Int32.le_refl _) c
  · intro i d hd ih M1 h1
    have hi : i < 32 := by omega
    have g17 : M1 17 = M 17 := h1.2 _ (by omega)
    have g18 : M1 18 = M 18 := h1.2 _ (by omega)
    have g19 : M1 19 = M 19 := h1.2 _ (by omega)
    have g20 : M1 20 = M 20 := h1.2 _ (by omega)
    have g21 : M1 21 = M 21 := h1.2 _ (by omega)
    have g22 : M1 22 = M 22 := h1.2 _ (by omega)
    have g23 : M1 23 = M 23 := h1.2 _ (by omega)
    refine x_iload_n hO dX1_copyFrom_2 rfl rfl ?_
    refine x_bipush (v := nI 32) hO dX1_copyFrom_3 rfl ?_
    refine x_icmp_ge (tgt := 98) hO dX1_copyFrom_5 (by decide) (fun c => ?_) (fun c => ?_)
    · exact absurd c (nI_ge hi (by decide))
    · refine x_aload_n hO dX1_copyFrom_8 rfl rfl ?_
      refine x_getR (T := TX1) (j := 0) hO dX1_copyFrom_9 flX1_9 (by decide) rfl rfl (by decide) rfl rfl ?_
      refine x_iload_n hO dX1_copyFrom_12 rfl rfl ?_
      refine x_aload_n hO dX1_copyFrom_13 rfl rfl ?_
      refine x_getR (T := TX1) (j := 0) hO dX1_copyFrom_14 flX1_9 (by decide) rfl rfl (by decide) rfl rfl ?_
      refine x_iload_n hO dX1_copyFrom_17 rfl rfl ?_
      refine x_iald hO (by decide) rfl (by decide) (rfl) (hi) dX1_copyFrom_18 ?_
      refine x_iast hO (by decide) rfl (by decide) (rfl) (hi) dX1_copyFrom_19 ?_
      refine x_aload_n hO dX1_copyFrom_20 rfl rfl ?_
      refine x_getR (T := TX1) (j := 1) hO dX1_copyFrom_21 flX1_15 (by decide) rfl rfl (by decide) rfl rfl ?_
      refine x_iload_n hO dX1_copyFrom_24 rfl rfl ?_
      refine x_aload_n hO dX1_copyFrom_25 rfl rfl ?_
      refine x_getR (T := TX1) (j := 1) hO dX1_copyFrom_26 flX1_15 (by decide) rfl rfl (by decide) rfl rfl ?_
      refine x_iload_n hO dX1_copyFrom_29 rfl rfl ?_
      refine x_iald hO (by decide) rfl (by decide) (rfl) (hi) dX1_copyFrom_30 ?_
      refine x_iast hO (by decide) rfl (by decide) (rfl) (hi) dX1_copyFrom_31 ?_
      refine x_aload_n hO dX1_copyFrom_32 rfl rfl ?_
      refine x_getR (T := TX1) (j := 2) hO dX1_copyFrom_33 flX1_18 (by decide) rfl rfl (by decide) rfl rfl ?_
      refine x_iload_n hO dX1_copyFrom_36 rfl rfl ?_
      refine x_aload_n hO dX1_copyFrom_37 rfl rfl ?_
      refine x_getR (T := TX1) (j := 2) hO dX1_copyFrom_38 flX1_18 (by decide) rfl rfl (by decide) rfl rfl ?_
      refine x_iload_n hO dX1_copyFrom_41 rfl rfl ?_
      refine x_iald hO (by decide) rfl (by decide) (rfl) (hi) dX1_copyFrom_42 ?_
      refine x_iast hO (by decide) rfl (by decide) (rfl) (hi) dX1_copyFrom_43 ?_
      refine x_aload_n hO dX1_copyFrom_44 rfl rfl ?_
      refine x_getR (T := TX1) (j := 3) hO dX1_copyFrom_45 flX1_21 (by decide) rfl rfl (by decide) rfl rfl ?_
      refine x_iload_n hO dX1_copyFrom_48 rfl rfl ?_
      refine x_aload_n hO dX1_copyFrom_49 rfl rfl ?_
      refine x_getR (T := TX1) (j := 3) hO dX1_copyFrom_50 flX1_21 (by decide) rfl rfl (by decide) rfl rfl ?_
      refine x_iload_n hO dX1_copyFrom_53 rfl rfl ?_
      refine x_iald hO (by decide) rfl (by decide) (rfl) (hi) dX1_copyFrom_54 ?_
      refine x_iast hO (by decide) rfl (by decide) (rfl) (hi) dX1_copyFrom_55 ?_
      refine x_aload_n hO dX1_copyFrom_56 rfl rfl ?_
      refine x_getR (T := TX1) (j := 4) hO dX1_copyFrom_57 flX1_24 (by decide) rfl rfl (by decide) rfl rfl ?_
      refine x_iload_n hO dX1_copyFrom_60 rfl rfl ?_
      refine x_aload_n hO dX1_copyFrom_61 rfl rfl ?_
      refine x_getR (T := TX1) (j := 4) hO dX1_copyFrom_62 flX1_24 (by decide) rfl rfl (by decide) rfl rfl ?_
      refine x_iload_n hO dX1_copyFrom_65 rfl rfl ?_
      refine x_iald hO (by decide) rfl (by decide) (rfl) (hi) dX1_copyFrom_66 ?_
      refine x_iast hO (by decide) rfl (by decide) (rfl) (hi) dX1_copyFrom_67 ?_
      refine x_aload_n hO dX1_copyFrom_68 rfl rfl ?_
      refine x_getR (T := TX1) (j := 5) hO dX1_copyFrom_69 flX1_27 (by decide) rfl rfl (by decide) rfl rfl ?_
      refine x_iload_n hO dX1_copyFrom_72 rfl rfl ?_
      refine x_aload_n hO dX1_copyFrom_73 rfl rfl ?_
      refine x_getR (T := TX1) (j := 5) hO dX1_copyFrom_74 flX1_27 (by decide) rfl rfl (by decide) rfl rfl ?_
      refine x_iload_n hO dX1_copyFrom_77 rfl rfl ?_
      refine x_iald hO (by decide) rfl (by decide) (rfl) (hi) dX1_copyFrom_78 ?_
      refine x_iast hO (by decide) rfl (by decide) (rfl) (hi) dX1_copyFrom_79 ?_
      refine x_aload_n hO dX1_copyFrom_80 rfl rfl ?_
      refine x_getR (T := TX1) (j := 6) hO dX1_copyFrom_81 flX1_30 (by decide) rfl rfl (by decide) rfl rfl ?_
      refine x_iload_n hO dX1_copyFrom_84 rfl rfl ?_
      refine x_aload_n hO dX1_copyFrom_85 rfl rfl ?_
      refine x_getR (T := TX1) (j := 6) hO dX1_copyFrom_86 flX1_30 (by decide) rfl rfl (by decide) rfl rfl ?_
      refine x_iload_n hO dX1_copyFrom_89 rfl rfl ?_
      refine x_iald hO (by decide) rfl (by decide) (rfl) (hi) dX1_copyFrom_90 ?_
      refine x_iast hO (by decide) rfl (by decide) (rfl) (hi) dX1_copyFrom_91 ?_
      refine x_iinc hO dX1_copyFrom_92 rfl (by first | exact xinc_n _ | rfl) rfl hN ?_
      refine x_goto (tgt := 2) hO dX1_copyFrom_95 (by decide) ?_
      refine ih _ (cpR_s h1 (all7 ?_ ?_ ?_ ?_ ?_ ?_ ?_) (all7 ?_ ?_ ?_ ?_ ?_ ?_ ?_) (fun k hk => ?_))
      all_goals first
        | (simp [xset_at, g17, g18, g19, g20, g21, g22, g23]; done)
        | (intro s hs; simp [xset_at, hs]; done)
        | skip
      have h57 : ¬ k = 57 := by omega
      have h58 : ¬ k = 58 := by omega
      have h59 : ¬ k = 59 := by omega
      have h60 : ¬ k = 60 := by omega
      have h61 : ¬ k = 61 := by omega
      have h62 : ¬ k = 62 := by omega
      have h63 : ¬ k = 63 := by omega
      funext a
      simp [xset_at, h57, h58, h59, h60, h61, h62, h63]
/-! ===== TernaryMatcher.copyState ===== -/
theorem k_copyState_24_16 (U : xP) (M : xM) : xMetV U mX3_copyState [.inr 24, .inr 16] M (fun M' => cpSt M M' 16 24) := by
  refine xMetV.of (L := [some (.inr 24), some (.inr 16)]) fX3_copyState rfl rfl (Nat.le_of_ble_eq_true rfl) (fun G hN hO hR => ?_)
  have hN : G.2.2.2.2.2.2.2.2.2.2.1 = 2 := hN
  have hO : xOK U G RX3 cX3_copyState 1 := hO
  refine x_aload_n hO dX3_copyState_0 rfl rfl ?_
  refine x_ifnull hO dX3_copyState_1 ?_
  refine x_aload_n hO dX3_copyState_4 rfl rfl ?_
  refine x_ifnull hO dX3_copyState_5 ?_
  refine x_aload_n hO dX3_copyState_8 rfl rfl ?_
  refine x_aload_n hO dX3_copyState_9 rfl rfl ?_
  refine x_callVv hO (k_copyFrom_16_24 U M) dX3_copyState_10 lkX3_210 fX1_copyFrom vX1_copyFrom (by decide) rfl rfl rfl rfl rfl (by decide) (Nat.le_of_ble_eq_true rfl) (fun M' h => ?_)
  refine x_vret hO hR dX3_copyState_13 ?_
  exact h
theorem k_copyState_32_16 (U : xP) (M : xM) : xMetV U mX3_copyState [.inr 32, .inr 16] M (fun M' => cpSt M M' 16 32) := by
  refine xMetV.of (L := [some (.inr 32), some (.inr 16)]) fX3_copyState rfl rfl (Nat.le_of_ble_eq_true rfl) (fun G hN hO hR => ?_)
  have hN : G.2.2.2.2.2.2.2.2.2.2.1 = 2 := hN
  have hO : xOK U G RX3 cX3_copyState 1 := hO
  refine x_aload_n hO dX3_copyState_0 rfl rfl ?_
  refine x_ifnull hO dX3_copyState_1 ?_
  refine x_aload_n hO dX3_copyState_4 rfl rfl ?_
  refine x_ifnull hO dX3_copyState_5 ?_
  refine x_aload_n hO dX3_copyState_8 rfl rfl ?_
  refine x_aload_n hO dX3_copyState_9 rfl rfl ?_
  refine x_callVv hO (k_copyFrom_16_32 U M) dX3_copyState_10 lkX3_210 fX1_copyFrom vX1_copyFrom (by decide) rfl rfl rfl rfl rfl (by decide) (Nat.le_of_ble_eq_true rfl) (fun M' h => ?_)
  refine x_vret hO hR dX3_copyState_13 ?_
  exact h
theorem k_copyState_40_16 (U : xP) (M : xM) : xMetV U mX3_copyState [.inr 40, .inr 16] M (fun M' => cpSt M M' 16 40) := by
  refine xMetV.of (L := [some (.inr 40), some (.inr 16)]) fX3_copyState rfl rfl (Nat.le_of_ble_eq_true rfl) (fun G hN hO hR => ?_)
  have hN : G.2.2.2.2.2.2.2.2.2.2.1 = 2 := hN
  have hO : xOK U G RX3 cX3_copyState 1 := hO
  refine x_aload_n hO dX3_copyState_0 rfl rfl ?_
  refine x_ifnull hO dX3_copyState_1 ?_
  refine x_aload_n hO dX3_copyState_4 rfl rfl ?_
  refine x_ifnull hO dX3_copyState_5 ?_
  refine x_aload_n hO dX3_copyState_8 rfl rfl ?_
  refine x_aload_n hO dX3_copyState_9 rfl rfl ?_
  refine x_callVv hO (k_copyFrom_16_40 U M) dX3_copyState_10 lkX3_210 fX1_copyFrom vX1_copyFrom (by decide) rfl rfl rfl rfl rfl (by decide) (Nat.le_of_ble_eq_true rfl) (fun M' h => ?_)
  refine x_vret hO hR dX3_copyState_13 ?_
  exact h
theorem k_copyState_48_16 (U : xP) (M : xM) : xMetV U mX3_copyState [.inr 48, .inr 16] M (fun M' => cpSt M M' 16 48) := by
  refine xMetV.of (L := [some (.inr 48), some (.inr 16)]) fX3_copyState rfl rfl (Nat.le_of_ble_eq_true rfl) (fun G hN hO hR => ?_)
  have hN : G.2.2.2.2.2.2.2.2.2.2.1 = 2 := hN
  have hO : xOK U G RX3 cX3_copyState 1 := hO
  refine x_aload_n hO dX3_copyState_0 rfl rfl ?_
  refine x_ifnull hO dX3_copyState_1 ?_
  refine x_aload_n hO dX3_copyState_4 rfl rfl ?_
  refine x_ifnull hO dX3_copyState_5 ?_
  refine x_aload_n hO dX3_copyState_8 rfl rfl ?_
  refine x_aload_n hO dX3_copyState_9 rfl rfl ?_
  refine x_callVv hO (k_copyFrom_16_48 U M) dX3_copyState_10 lkX3_210 fX1_copyFrom vX1_copyFrom (by decide) rfl rfl rfl rfl rfl (by decide) (Nat.le_of_ble_eq_true rfl) (fun M' h => ?_)
  refine x_vret hO hR dX3_copyState_13 ?_
  exact h
theorem k_copyState_56_16 (U : xP) (M : xM) : xMetV U mX3_copyState [.inr 56, .inr 16] M (fun M' => cpSt M M' 16 56) := by
  refine xMetV.of (L := [some (.inr 56), some (.inr 16)]) fX3_copyState rfl rfl (Nat.le_of_ble_eq_true rfl) (fun G hN hO hR => ?_)
  have hN : G.2.2.2.2.2.2.2.2.2.2.1 = 2 := hN
  have hO : xOK U G RX3 cX3_copyState 1 := hO
  refine x_aload_n hO dX3_copyState_0 rfl rfl ?_
  refine x_ifnull hO dX3_copyState_1 ?_
  refine x_aload_n hO dX3_copyState_4 rfl rfl ?_
  refine x_ifnull hO dX3_copyState_5 ?_
  refine x_aload_n hO dX3_copyState_8 rfl rfl ?_
  refine x_aload_n hO dX3_copyState_9 rfl rfl ?_
  refine x_callVv hO (k_copyFrom_16_56 U M) dX3_copyState_10 lkX3_210 fX1_copyFrom vX1_copyFrom (by decide) rfl rfl rfl rfl rfl (by decide) (Nat.le_of_ble_eq_true rfl) (fun M' h => ?_)
  refine x_vret hO hR dX3_copyState_13 ?_
  exact h
theorem k_copyState_16_24 (U : xP) (M : xM) : xMetV U mX3_copyState [.inr 16, .inr 24] M (fun M' => cpSt M M' 24 16) := by
  refine xMetV.of (L := [some (.inr 16), some (.inr 24)]) fX3_copyState rfl rfl (Nat.le_of_ble_eq_true rfl) (fun G hN hO hR => ?_)
  have hN : G.2.2.2.2.2.2.2.2.2.2.1 = 2 := hN
  have hO : xOK U G RX3 cX3_copyState 1 := hO
  refine x_aload_n hO dX3_copyState_0 rfl rfl ?_
  refine x_ifnull hO dX3_copyState_1 ?_
  refine x_aload_n hO dX3_copyState_4 rfl rfl ?_
  refine x_ifnull hO dX3_copyState_5 ?_
  refine x_aload_n hO dX3_copyState_8 rfl rfl ?_
  refine x_aload_n hO dX3_copyState_9 rfl rfl ?_
  refine x_callVv hO (k_copyFrom_24_16 U M) dX3_copyState_10 lkX3_210 fX1_copyFrom vX1_copyFrom (by decide) rfl rfl rfl rfl rfl (by decide) (Nat.le_of_ble_eq_true rfl) (fun M' h => ?_)
  refine x_vret hO hR dX3_copyState_13 ?_
  exact h
theorem k_copyState_16_32 (U : xP) (M : xM) : xMetV U mX3_copyState [.inr 16, .inr 32] M (fun M' => cpSt M M' 32 16) := by
  refine xMetV.of (L := [some (.inr 16), some (.inr 32)]) fX3_copyState rfl rfl (Nat.le_of_ble_eq_true rfl) (fun G hN hO hR => ?_)
  have hN : G.2.2.2.2.2.2.2.2.2.2.1 = 2 := hN
  have hO : xOK U G RX3 cX3_copyState 1 := hO
  refine x_aload_n hO dX3_copyState_0 rfl rfl ?_
  refine x_ifnull hO dX3_copyState_1 ?_
  refine x_aload_n hO dX3_copyState_4 rfl rfl ?_
  refine x_ifnull hO dX3_copyState_5 ?_
  refine x_aload_n hO dX3_copyState_8 rfl rfl ?_
  refine x_aload_n hO dX3_copyState_9 rfl rfl ?_
  refine x_callVv hO (k_copyFrom_32_16 U M) dX3_copyState_10 lkX3_210 fX1_copyFrom vX1_copyFrom (by decide) rfl rfl rfl rfl rfl (by decide) (Nat.le_of_ble_eq_true rfl) (fun M' h => ?_)
  refine x_vret hO hR dX3_copyState_13 ?_
  exact h
theorem k_copyState_16_40 (U : xP) (M : xM) : xMetV U mX3_copyState [.inr 16, .inr 40] M (fun M' => cpSt M M' 40 16) := by
  refine xMetV.of (L := [some (.inr 16), some (.inr 40)]) fX3_copyState rfl rfl (Nat.le_of_ble_eq_true rfl) (fun G hN hO hR => ?_)
  have hN : G.2.2.2.2.2.2.2.2.2.2.1 = 2 := hN
  have hO : xOK U G RX3 cX3_copyState 1 := hO
  refine x_aload_n hO dX3_copyState_0 rfl rfl ?_
  refine x_ifnull hO dX3_copyState_1 ?_
  refine x_aload_n hO dX3_copyState_4 rfl rfl ?_
  refine x_ifnull hO dX3_copyState_5 ?_
  refine x_aload_n hO dX3_copyState_8 rfl rfl ?_
  refine x_aload_n hO dX3_copyState_9 rfl rfl ?_
  refine x_callVv hO (k_copyFrom_40_16 U M) dX3_copyState_10 lkX3_210 fX1_copyFrom vX1_copyFrom (by decide) rfl rfl rfl rfl rfl (by decide) (Nat.le_of_ble_eq_true rfl) (fun M' h => ?_)
  refine x_vret hO hR dX3_copyState_13 ?_
  exact h
theorem k_copyState_16_48 (U : xP) (M : xM) : xMetV U mX3_copyState [.inr 16, .inr 48] M (fun M' => cpSt M M' 48 16) := by
  refine xMetV.of (L := [some (.inr 16), some (.inr 48)]) fX3_copyState rfl rfl (Nat.le_of_ble_eq_true rfl) (fun G hN hO hR => ?_)
  have hN : G.2.2.2.2.2.2.2.2.2.2.1 = 2 := hN
  have hO : xOK U G RX3 cX3_copyState 1 := hO
  refine x_aload_n hO dX3_copyState_0 rfl rfl ?_
  refine x_ifnull hO dX3_copyState_1 ?_
  refine x_aload_n hO dX3_copyState_4 rfl rfl ?_
  refine x_ifnull hO dX3_copyState_5 ?_
  refine x_aload_n hO dX3_copyState_8 rfl rfl ?_
  refine x_aload_n hO dX3_copyState_9 rfl rfl ?_
  refine x_callVv hO (k_copyFrom_48_16 U M) dX3_copyState_10 lkX3_210 fX1_copyFrom vX1_copyFrom (by decide) rfl rfl rfl rfl rfl (by decide) (Nat.le_of_ble_eq_true rfl) (fun M' h => ?_)
  refine x_vret hO hR dX3_copyState_13 ?_
  exact h
theorem k_copyState_16_56 (U : xP) (M : xM) : xMetV U mX3_copyState [.inr 16, .inr 56] M (fun M' => cpSt M M' 56 16) := by
  refine xMetV.of (L := [some (.inr 16), some (.inr 56)]) fX3_copyState rfl rfl (Nat.le_of_ble_eq_true rfl) (fun G hN hO hR => ?_)
  have hN : G.2.2.2.2.2.2.2.2.2.2.1 = 2 := hN
  have hO : xOK U G RX3 cX3_copyState 1 := hO
  refine x_aload_n hO dX3_copyState_0 rfl rfl ?_
  refine x_ifnull hO dX3_copyState_1 ?_
  refine x_aload_n hO dX3_copyState_4 rfl rfl ?_
  refine x_ifnull hO dX3_copyState_5 ?_
  refine x_aload_n hO dX3_copyState_8 rfl rfl ?_
  refine x_aload_n hO dX3_copyState_9 rfl rfl ?_
  refine x_callVv hO (k_copyFrom_56_16 U M) dX3_copyState_10 lkX3_210 fX1_copyFrom vX1_copyFrom (by decide) rfl rfl rfl rfl rfl (by decide) (Nat.le_of_ble_eq_true rfl) (fun M' h => ?_)
  refine x_vret hO hR dX3_copyState_13 ?_
  exact h
theorem k_copyTo (U : xP) (M : xM) {b : Nat} (h : b = 24 ∨ b = 32 ∨ b = 40 ∨ b = 48 ∨ b = 56) : xMetV U mX3_copyState [.inr 16, .inr b] M (fun M' => cpSt M M' b 16) := by
  rcases h with rfl | rfl | rfl | rfl | rfl
  · exact k_copyState_16_24 U M
  · exact k_copyState_16_32 U M
  · exact k_copyState_16_40 U M
  · exact k_copyState_16_48 U M
  · exact k_copyState_16_56 U M
theorem k_copyOf (U : xP) (M : xM) {b : Nat} (h : b = 24 ∨ b = 32 ∨ b = 40 ∨ b = 48 ∨ b = 56) : xMetV U mX3_copyState [.inr b, .inr 16] M (fun M' => cpSt M M' 16 b) := by
  rcases h with rfl | rfl | rfl | rfl | rfl
  · exact k_copyState_24_16 U M
  · exact k_copyState_32_16 U M
  · exact k_copyState_40_16 U M
  · exact k_copyState_48_16 U M
  · exact k_copyState_56_16 U M
/-! ===== Math.floorMod, History ===== -/
theorem k_floorMod (U : xP) (M : xM) {a : Nat} (ha : a < 100) : xMetI U mJ9_floorMod_7cf53 [.inl (nI a), .inl (nI 4)] M (fun r M' => r = nI (a % 4) ∧ M' = M) := by
  refine xMetI.of (ty := .int) (L := [some (.inl (nI a)), some (.inl (nI 4)), none]) fJ9_floorMod_7cf53 rfl rfl (Nat.le_of_ble_eq_true rfl) (fun G hN hO hR => ?_)
  have hN : G.2.2.2.2.2.2.2.2.2.2.1 = 3 := hN
  have hO : xOK U G RJ9 cJ9_floorMod_7cf53 0 := hO
  have n0 : ¬ nI 4 = 0 := by decide
  refine x_iload_n hO dJ9_floorMod_7cf53_0 rfl rfl ?_
  refine x_iload_n hO dJ9_floorMod_7cf53_1 rfl rfl ?_
  refine x_irem hO dJ9_floorMod_7cf53_2 (n0) ?_
  rw [pk_rem (by omega) (by decide) (by decide)]
  refine x_istore_n (n := 3) hO dJ9_floorMod_7cf53_3 rfl rfl (by decide) hN ?_
  refine x_iload_n hO dJ9_floorMod_7cf53_4 rfl rfl ?_
  refine x_iload_n hO dJ9_floorMod_7cf53_5 rfl rfl ?_
  refine x_ixor hO dJ9_floorMod_7cf53_6 ?_
  have hx : ∀ a, a < 100 → 0 ≤ nI a ^^^ nI 4 := by decide +kernel
  refine x_if_ge (tgt := 18) hO dJ9_floorMod_7cf53_7 (by decide) (fun c => ?_) (fun c => ?_)
  · refine x_iload_n hO dJ9_floorMod_7cf53_18 rfl rfl ?_
    refine x_iret hO hR dJ9_floorMod_7cf53_19 rfl ?_
    exact ⟨rfl, rfl⟩
  · exact absurd (hx a ha) c
/-- the memory of the history's place i, when the oldest is o -/
def hb (o i : Nat) : Nat := 32 + 8 * ((o + i) % 4)
theorem hb_or (o i : Nat) : hb o i = 24 ∨ hb o i = 32 ∨ hb o i = 40 ∨ hb o i = 48 ∨ hb o i = 56 := by
  unfold hb
  omega
theorem hb_ts (o i : Nat) : ([32, 40, 48, 56] : List Nat)[(o + i) % 4]? = some (hb o i) := by
  unfold hb
  have h : (o + i) % 4 < 4 := Nat.mod_lt _ (by decide)
  generalize (o + i) % 4 = j at *
  match j, h with
  | 0, _ => rfl
  | 1, _ => rfl
  | 2, _ => rfl
  | 3, _ => rfl
theorem x_aaldn {U : xP} {G : xG} {own : String} {cc : ByteArray} {K pc : Nat} {L : List (Option xV)} {st : List xV} {M : xM} (hO : xOK U G own cc K) {k t j : Nat} {ts : List Nat} (hk : xk k) (hs : xsh k = .inr (.inl ts)) (ht : ts[j]? = some t) (hl : ts.length < 2 ^ 31) (hd : decode cc pc = .ok (.aaload, 1)) (kk : XW U G (pc + 1) L (.inr t :: st) M) : XW U G pc L (.inl (nI j) :: .inr k :: st) M := by
  have hj : j < ts.length := (List.getElem?_eq_some_iff.mp ht).1
  exact x_aald hO hk hs (vp_in_nI hj hl) (by rw [nI_clamp (by omega)]; exact ht) hd kk
theorem k_record (U : xP) (M : xM) {o c : Nat} (ho : M 1 1 = nI o) (hc : M 1 2 = nI c) (ho4 : o < 4) (hc4 : c ≤ 4) : xMetV U mX0_record [.inr 1, .inr 16] M (fun M' => ∃ o1 c1 : Nat, o1 < 4 ∧ c1 < 4 ∧ M' 1 1 = nI o1 ∧ M' 1 2 = nI (c1 + 1) ∧ (c < 4 → o1 = o ∧ c1 = c) ∧ (c = 4 → o1 = (o + 1) % 4 ∧ c1 = 3) ∧ cA M' (hb o1 c1) = cA M 16 ∧ (∀ j, 7 ≤ j → j < 12 → M' (hb o1 c1) j = M 16 j) ∧ ∀ k, k ≠ 1 → (k < hb o1 c1 ∨ hb o1 c1 + 8 ≤ k) → M' k = M k) := by
  refine xMetV.of (L := [some (.inr 1), some (.inr 16)]) fX0_record rfl rfl (Nat.le_of_ble_eq_true rfl) (fun G hN hO hR => ?_)
  have hN : G.2.2.2.2.2.2.2.2.2.2.1 = 2 := hN
  have hO : xOK U G RX0 cX0_record 2 := hO
  refine x_aload_n hO dX0_record_0 rfl rfl ?_
  refine x_getI (T := TX0) (j := 2) hO dX0_record_1 flX0_19 (by decide) rfl rfl (by decide) rfl rfl ?_
  refine x_iconst (v := nI 4) hO dX0_record_4 rfl ?_
  rw [hc]
  have fin : ∀ (o1 c1 : Nat) (M1 : xM), o1 < 4 → c1 < 4 → M1 1 1 = nI o1 → M1 1 2 = nI c1 → (∀ k, k ≠ 1 → M1 k = M k) → (c < 4 → o1 = o ∧ c1 = c) → (c = 4 → o1 = (o + 1) % 4 ∧ c1 = 3) → XW U G 32 [some (.inr 1), some (.inr 16)] [] M1 := by
    intro o1 c1 M1 h1 h2 h3 h4 h5 h6 h7
    have h16 : M1 16 = M 16 := h5 16 (by decide)
    have hA : cA M1 16 = cA M 16 := cA_ext (fun s hs => cA_row hs hs (fun w hw => by rw [h5 _ (by omega)])) (fun s hs => cA_ge hs)
    refine x_aload_n hO dX0_record_32 rfl rfl ?_
    refine x_aload_n hO dX0_record_33 rfl rfl ?_
    refine x_getR (T := TX0) (j := 0) hO dX0_record_34 flX0_11 (by decide) rfl rfl (by decide) rfl rfl ?_
    refine x_aload_n hO dX0_record_37 rfl rfl ?_
    refine x_getI (T := TX0) (j := 1) hO dX0_record_38 flX0_15 (by decide) rfl rfl (by decide) rfl rfl ?_
    refine x_aload_n hO dX0_record_41 rfl rfl ?_
    refine x_getI (T := TX0) (j := 2) hO dX0_record_42 flX0_19 (by decide) rfl rfl (by decide) rfl rfl ?_
    rw [h3, h4]
    refine x_iadd hO dX0_record_45 ?_
    rw [nI_add]
    refine x_iconst (v := nI 4) hO dX0_record_46 rfl ?_
    refine x_callS1 hO (k_floorMod U M1 (a := o1 + c1) (by omega)) dX0_record_47 lkX0_23 fJ9_floorMod_7cf53 sJ9_floorMod_7cf53 rfl rfl (by decide) (Nat.le_of_ble_eq_true rfl) ?_
    refine x_aaldn hO (by decide) rfl (hb_ts o1 c1) (by decide) dX0_record_50 ?_
    refine x_callSNv hO (k_copyTo U M1 (hb_or o1 c1)) dX0_record_51 lkX0_29 fX3_copyState sX3_copyState rfl rfl (by decide) (Nat.le_of_ble_eq_true rfl) (fun M' h8 => ?_)
    have hb1 : 32 ≤ hb o1 c1 := by unfold hb; omega
    have e1 : M' 1 = M1 1 := h8.2.2 1 (by omega)
    refine x_aload_n hO dX0_record_54 rfl rfl ?_
    refine x_dup hO dX0_record_55 ?_
    refine x_getI (T := TX0) (j := 2) hO dX0_record_56 flX0_19 (by decide) rfl rfl (by decide) rfl rfl ?_
    refine x_iconst (v := nI 1) hO dX0_record_59 rfl ?_
    rw [e1, h4]
    refine x_iadd hO dX0_record_60 ?_
    rw [show nI c1 + nI 1 = nI (c1 + 1) from nI_add c1 1]
    refine x_put (T := TX0) (j := 2) (ty := .int) hO dX0_record_61 flX0_19 (by decide) rfl rfl (by decide) rfl rfl rfl (by decide +kernel) rfl rfl ?_
    refine x_vret hO hR dX0_record_64 ?_
    refine ⟨o1, c1, h1, h2, ?_, ?_, h6, h7, ?_, fun j hj hj2 => ?_, fun k hk1 hk => ?_⟩
    · rw [xset_at, if_pos rfl, if_neg (by decide), e1]
      exact h3
    · rw [xset_at, if_pos rfl, if_pos rfl]
    · rw [← hA, ← h8.1]
      refine cA_ext (fun s hs => cA_row hs hs (fun w hw => ?_)) (fun s hs => cA_ge hs)
      rw [xset_at, if_neg (by omega)]
    · rw [xset_at, if_neg (by omega), h8.2.1 j hj hj2, h16]
    · funext a
      rw [xset_at, if_neg hk1, h8.2.2 k hk, h5 k hk1]
  refine x_icmp_ne (tgt := 32) hO dX0_record_5 (by decide) (fun c1 => ?_) (fun c1 => ?_)
  · have q : ¬ c = 4 := fun z => c1 (by rw [z])
    exact fin o c M ho4 (by omega) ho hc (fun k _ => rfl) (fun _ => ⟨rfl, rfl⟩) (fun z => absurd z q)
  · have q : c = 4 := (nI_eq (by omega) (by decide)).mp c1
    subst q
    refine x_aload_n hO dX0_record_8 rfl rfl ?_
    refine x_aload_n hO dX0_record_9 rfl rfl ?_
    refine x_getI (T := TX0) (j := 1) hO dX0_record_10 flX0_15 (by decide) rfl rfl (by decide) rfl rfl ?_
    rw [ho]
    refine x_iconst (v := nI 1) hO dX0_record_13 rfl ?_
    refine x_iadd hO dX0_record_14 ?_
    rw [nI_add]
    refine x_iconst (v := nI 4) hO dX0_record_15 rfl ?_
    refine x_callS1 hO (k_floorMod U M (a := o + 1) (by omega)) dX0_record_16 lkX0_23 fJ9_floorMod_7cf53 sJ9_floorMod_7cf53 rfl rfl (by decide) (Nat.le_of_ble_eq_true rfl) ?_
    refine x_put (T := TX0) (j := 1) (ty := .int) hO dX0_record_19 flX0_15 (by decide) rfl rfl (by decide) rfl rfl rfl (by decide +kernel) rfl rfl ?_
    refine x_aload_n hO dX0_record_22 rfl rfl ?_
    refine x_dup hO dX0_record_23 ?_
    refine x_getI (T := TX0) (j := 2) hO dX0_record_24 flX0_19 (by decide) rfl rfl (by decide) rfl rfl ?_
    have e2 : xset M 1 1 (nI ((o + 1) % 4)) 1 2 = nI 4 := by rw [xset_at, if_pos rfl, if_neg (by decide), hc]
    rw [e2]
    refine x_iconst (v := nI 1) hO dX0_record_27 rfl ?_
    refine x_isub hO dX0_record_28 ?_
    rw [show nI 4 - nI 1 = nI 3 from by decide]
    refine x_put (T := TX0) (j := 2) (ty := .int) hO dX0_record_29 flX0_19 (by decide) rfl rfl (by decide) rfl rfl rfl (by decide +kernel) rfl rfl ?_
    refine fin ((o + 1) % 4) 3 _ (Nat.mod_lt _ (by decide)) (by decide) ?_ ?_ (fun k hk => ?_) (fun z => absurd z (by decide)) (fun _ => ⟨rfl, rfl⟩)
    · rw [xset_at, if_pos rfl, if_neg (by decide), xset_at, if_pos rfl, if_pos rfl]
    · rw [xset_at, if_pos rfl, if_pos rfl]
    · funext a
      rw [xset_at, if_neg hk, xset_at, if_neg hk]
theorem k_takeLatest (U : xP) (M : xM) {o c : Nat} (ho : M 1 1 = nI o) (hc : M 1 2 = nI (c + 1)) (ho4 : o < 4) (hc4 : c < 4) : xMetV U mX0_takeLatestInto [.inr 1, .inr 16] M (fun M' => M' 1 1 = nI o ∧ M' 1 2 = nI c ∧ cA M' 16 = cA M (hb o c) ∧ (∀ j, 7 ≤ j → j < 12 → M' 16 j = M (hb o c) j) ∧ ∀ k, k ≠ 1 → (k < 16 ∨ 24 ≤ k) → M' k = M k) := by
  refine xMetV.of (L := [some (.inr 1), some (.inr 16)]) fX0_takeLatestInto rfl rfl (Nat.le_of_ble_eq_true rfl) (fun G hN hO hR => ?_)
  have hN : G.2.2.2.2.2.2.2.2.2.2.1 = 2 := hN
  have hO : xOK U G RX0 cX0_takeLatestInto 2 := hO
  refine x_aload_n hO dX0_takeLatestInto_0 rfl rfl ?_
  refine x_getI (T := TX0) (j := 2) hO dX0_takeLatestInto_1 flX0_19 (by decide) rfl rfl (by decide) rfl rfl ?_
  rw [hc]
  refine x_if_le (tgt := 39) hO dX0_takeLatestInto_4 (by decide) (fun c1 => ?_) (fun c1 => ?_)
  · exact absurd c1 (nI_nle (by omega) (by omega))
  · refine x_aload_n hO dX0_takeLatestInto_7 rfl rfl ?_
    refine x_dup hO dX0_takeLatestInto_8 ?_
    refine x_getI (T := TX0) (j := 2) hO dX0_takeLatestInto_9 flX0_19 (by decide) rfl rfl (by decide) rfl rfl ?_
    rw [hc]
    refine x_iconst (v := nI 1) hO dX0_takeLatestInto_12 rfl ?_
    refine x_isub hO dX0_takeLatestInto_13 ?_
    rw [nI_sub1]
    refine x_put (T := TX0) (j := 2) (ty := .int) hO dX0_takeLatestInto_14 flX0_19 (by decide) rfl rfl (by decide) rfl rfl rfl (by decide +kernel) rfl rfl ?_
    have e1 : xset M 1 2 (nI c) 1 1 = nI o := by rw [xset_at, if_pos rfl, if_neg (by decide), ho]
    have e2 : xset M 1 2 (nI c) 1 2 = nI c := by rw [xset_at, if_pos rfl, if_pos rfl]
    have e3 : ∀ k, k ≠ 1 → xset M 1 2 (nI c) k = M k := fun k hk => by funext a; rw [xset_at, if_neg hk]
    generalize xset M 1 2 (nI c) = M1 at *
    refine x_aload_n hO dX0_takeLatestInto_17 rfl rfl ?_
    refine x_getR (T := TX0) (j := 0) hO dX0_takeLatestInto_18 flX0_11 (by decide) rfl rfl (by decide) rfl rfl ?_
    refine x_aload_n hO dX0_takeLatestInto_21 rfl rfl ?_
    refine x_getI (T := TX0) (j := 1) hO dX0_takeLatestInto_22 flX0_15 (by decide) rfl rfl (by decide) rfl rfl ?_
    refine x_aload_n hO dX0_takeLatestInto_25 rfl rfl ?_
    refine x_getI (T := TX0) (j := 2) hO dX0_takeLatestInto_26 flX0_19 (by decide) rfl rfl (by decide) rfl rfl ?_
    rw [e1, e2]
    refine x_iadd hO dX0_takeLatestInto_29 ?_
    rw [nI_add]
    refine x_iconst (v := nI 4) hO dX0_takeLatestInto_30 rfl ?_
    refine x_callS1 hO (k_floorMod U M1 (a := o + c) (by omega)) dX0_takeLatestInto_31 lkX0_23 fJ9_floorMod_7cf53 sJ9_floorMod_7cf53 rfl rfl (by decide) (Nat.le_of_ble_eq_true rfl) ?_
    refine x_aaldn hO (by decide) rfl (hb_ts o c) (by decide) dX0_takeLatestInto_34 ?_
    refine x_aload_n hO dX0_takeLatestInto_35 rfl rfl ?_
    refine x_callSNv hO (k_copyOf U M1 (hb_or o c)) dX0_takeLatestInto_36 lkX0_29 fX3_copyState sX3_copyState rfl rfl (by decide) (Nat.le_of_ble_eq_true rfl) (fun M' h8 => ?_)
    refine x_vret hO hR dX0_takeLatestInto_39 ?_
    have hb1 : 32 ≤ hb o c := by unfold hb; omega
    have f1 : M' 1 = M1 1 := h8.2.2 1 (by omega)
    refine ⟨by rw [f1]; exact e1, by rw [f1]; exact e2, ?_, fun j hj hj2 => ?_, fun k hk1 hk => ?_⟩
    · rw [h8.1]
      exact cA_ext (fun s hs => cA_row hs hs (fun w hw => by rw [e3 _ (by omega)])) (fun s hs => cA_ge hs)
    · rw [h8.2.1 j hj hj2, e3 _ (by omega)]
    · rw [h8.2.2 k hk, e3 k hk1]
