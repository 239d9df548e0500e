/-! ===== RuleText.readRules ===== -/
/-- what has been read of the first i rules -/
def tDat (T : tT) (n i : Nat) (M : xM) : Prop := ∀ j, j < i → M 5 j = nI (eM T (tB T n j) 8) ∧ M 6 j = nI (eV T (tB T n j) 8) ∧ M 7 j = rRank T n (tB T n j) ∧ M 8 j = rAct T n (tB T n j)
theorem tDat_s {T : tT} {n i : Nat} {M M' : xM} (h : tDat T n i M) (h5 : M' 5 = upd (M 5) i (nI (eM T (tB T n i) 8))) (h6 : M' 6 = upd (M 6) i (nI (eV T (tB T n i) 8))) (h7 : M' 7 = upd (M 7) i (rRank T n (tB T n i))) (h8 : M' 8 = upd (M 8) i (rAct T n (tB T n i))) : tDat T n (i + 1) M' := by
  intro j hj
  rw [h5, h6, h7, h8]
  simp only [upd_at]
  by_cases e : j = i
  · subst e
    simp
  · simp only [if_neg e]
    exact h j (by omega)
theorem k_readRules (U : xP) (M : xM) {n : Nat} (h1 : M 3 1 = nI n) (hn : n ≤ 60) : xMetI U mX2_readRules [.inr 3] M (fun r M' => r = (if (tx (M 4) n 5 0 0).1 then -1 else nI (tx (M 4) n 5 0 0).2.1) ∧ ((tx (M 4) n 5 0 0).1 = true → M' 3 3 = nI (tx (M 4) n 5 0 0).2.2 ∧ tDat (M 4) n (tx (M 4) n 5 0 0).2.2 M') ∧ M' 3 1 = nI n ∧ ∀ k, k ≠ 3 → k ≠ 5 → k ≠ 6 → k ≠ 7 → k ≠ 8 → M' k = M k) := by
  refine xMetI.of (ty := .int) (L := [some (.inr 3), none]) fX2_readRules rfl rfl (Nat.le_of_ble_eq_true rfl) (fun G hN hO hR => ?_)
  have hN : G.2.2.2.2.2.2.2.2.2.2.1 = 2 := hN
  have hO : xOK U G RX2 cX2_readRules 3 := hO
  have hM4 : M 4 = M 4 := rfl
  generalize hT : M 4 = T at hR hM4
  generalize hg : tx T n 5 0 0 = g at hR
  refine x_aload_n hO dX2_readRules_0 rfl rfl ?_
  refine x_iconst (v := nI 0) hO dX2_readRules_1 rfl ?_
  refine x_put (T := TX2) (j := 2) (ty := .int) hO dX2_readRules_2 flX2_19 (by decide) rfl rfl (by decide) rfl rfl rfl (by decide +kernel) rfl rfl ?_
  refine x_aload_n hO dX2_readRules_5 rfl rfl ?_
  refine x_iconst (v := nI 0) hO dX2_readRules_6 rfl ?_
  refine x_put (T := TX2) (j := 3) (ty := .int) hO dX2_readRules_7 flX2_22 (by decide) rfl rfl (by decide) rfl rfl rfl (by decide +kernel) rfl rfl ?_
  refine x_iconst (v := nI 0) hO dX2_readRules_10 rfl ?_
  refine x_istore_n (n := 2) hO dX2_readRules_11 rfl rfl (by decide) hN ?_
  refine upd_ind (P := fun i d => ∀ (M1 : xM), M1 3 1 = nI n → M1 3 2 = nI (tB T n i) → M1 3 3 = nI i → tB T n i ≤ n → tDat T n i M1 → (∀ k, k ≠ 3 → k ≠ 5 → k ≠ 6 → k ≠ 7 → k ≠ 8 → M1 k = M k) → tx T n d (tB T n i) i = g → XW U G 12 [some (.inr 3), some (.inl (nI i))] [] M1) 5 ?_ ?_ 5 0 rfl _ ?_ ?_ ?_ (Nat.zero_le _) (fun j hj => absurd hj (Nat.not_lt_zero _)) (fun k h3 _ _ _ _ => ?_) hg
  · intro M1 a1 a2 a3 a4 a5 a6 hg2
    simp only [tx] at hg2
    refine x_iload_n hO dX2_readRules_12 rfl rfl ?_
    refine x_iconst (v := nI 5) hO dX2_readRules_13 rfl ?_
    refine x_icmp_ge (tgt := 107) hO dX2_readRules_14 (by decide) (fun c => ?_) (fun c => ?_)
    · refine x_aload_n hO dX2_readRules_107 rfl rfl ?_
      refine x_getI (T := TX2) (j := 2) hO dX2_readRules_108 flX2_19 (by decide) rfl rfl (by decide) rfl rfl ?_
      rw [a2]
      refine x_iret hO hR dX2_readRules_111 rfl ?_
      rw [← hg2]
      exact ⟨rfl, fun z => absurd z (by simp), a1, a6⟩
    · exact absurd (Int32.le_refl _) c
  · intro i d hd ih M1 a1 a2 a3 a4 a5 a6 hg2
    have hi : i < 5 := by omega
    have b4 : M1 4 = T := by rw [a6 4 (by decide) (by decide) (by decide) (by decide) (by decide), hT]
    simp only [tx] at hg2
    generalize hp : tB T n i = p at *
    refine x_iload_n hO dX2_readRules_12 rfl rfl ?_
    refine x_iconst (v := nI 5) hO dX2_readRules_13 rfl ?_
    refine x_icmp_ge (tgt := 107) hO dX2_readRules_14 (by decide) (fun c => ?_) (fun c => ?_)
    · exact absurd c (nI_ge hi (by decide))
    · have fail : ∀ M2 : xM, M2 3 1 = nI n → M2 3 2 = nI (rEnd T n p) → (∀ k, k ≠ 3 → k ≠ 5 → k ≠ 6 → k ≠ 7 → k ≠ 8 → M2 k = M k) → rOK T n p = false → XW U G 59 [some (.inr 3), some (.inl (nI i))] [] M2 := by
        intro M2 c1 c2 c3 c4
        rw [c4] at hg2
        refine x_aload_n hO dX2_readRules_59 rfl rfl ?_
        refine x_getI (T := TX2) (j := 2) hO dX2_readRules_60 flX2_19 (by decide) rfl rfl (by decide) rfl rfl ?_
        rw [c2]
        refine x_iret hO hR dX2_readRules_63 rfl ?_
        rw [← hg2]
        exact ⟨rfl, fun z => absurd z (by simp), c1, c3⟩
      refine x_aload_n hO dX2_readRules_17 rfl rfl ?_
      refine x_iload_n hO dX2_readRules_18 rfl rfl ?_
      refine x_callV hO (k_readEntry U M1 (n := n) (p := p) (r := i) a1 a2 hn a4 hi) dX2_readRules_19 lkX2_37 fX2_readEntry vX2_readEntry (by decide) rfl rfl rfl rfl rfl (by decide) (Nat.le_of_ble_eq_true rfl) (fun r Me h2 => ?_)
      obtain ⟨rfl, e3, e56, ek⟩ := h2
      rw [b4] at e3 e56 ⊢
      have f6 : ∀ k, k ≠ 3 → k ≠ 5 → k ≠ 6 → k ≠ 7 → k ≠ 8 → Me k = M k := fun k k3 k5 k6 k7 k8 => by rw [ek k k3 k5 k6, a6 k k3 k5 k6 k7 k8]
      have f1 : Me 3 1 = nI n := by rw [e3]; exact a1
      have f2 : Me 3 2 = nI (p + rE T n p) := by rw [e3]; rfl
      have f3 : Me 3 3 = nI i := by rw [e3]; exact a3
      refine x_if_eq (tgt := 59) hO dX2_readRules_22 (by decide) (fun c1 => ?_) (fun c1 => ?_)
      · have q : ¬ rE T n p = 8 := of_decide_eq_false (bI_0 c1)
        exact fail Me f1 (by rw [f2]; unfold rEnd; rw [if_neg q]) f6 (by unfold rOK; rw [decide_eq_false q]; rfl)
      · have q : rE T n p = 8 := of_decide_eq_true (bI_1 c1)
        have l8 := rE_lt (T := T) (n := n) (p := p) (by omega)
        rw [q] at f2 l8
        obtain ⟨e5, e6⟩ := e56 q
        have g4 : Me 4 = T := by rw [ek 4 (by decide) (by decide) (by decide), b4]
        refine x_aload_n hO dX2_readRules_25 rfl rfl ?_
        refine x_bipush (v := nI 44) hO dX2_readRules_26 rfl ?_
        refine x_callV hO (k_skip U Me (n := n) (p := p + 8) f1 f2 hn l8 (nI 44)) dX2_readRules_28 lkX2_41 fX2_skip vX2_skip (by decide) rfl rfl rfl rfl rfl (by decide) (Nat.le_of_ble_eq_true rfl) (fun r M2 h3 => ?_)
        obtain ⟨rfl, h3⟩ := h3
        rw [g4] at h3 ⊢
        refine x_if_eq (tgt := 59) hO dX2_readRules_31 (by decide) (fun c2 => ?_) (fun c2 => ?_)
        · have q2 : ¬ sg T n (p + 8) = nI 44 := by have := bI_0 c2; simpa using this
          rw [if_neg q2] at h3
          rw [h3]
          exact fail Me f1 (by rw [f2]; unfold rEnd; rw [if_pos q, if_neg q2]) f6 (by unfold rOK; simp [q2])
        · have q2 : sg T n (p + 8) = nI 44 := by have := bI_1 c2; simpa using this
          have l9 := sg_lt q2 (by decide)
          rw [if_pos q2] at h3
          have m3 : M2 3 = upd (Me 3) 2 (nI (p + 9)) := by rw [h3, xset_same]
          have mk : ∀ k, k ≠ 3 → M2 k = Me k := fun k hk => by rw [h3, xset_ne _ _ _ hk]
          clear h3
          have g1 : M2 3 1 = nI n := by rw [m3]; exact f1
          have g2 : M2 3 2 = nI (p + 9) := by rw [m3]; rfl
          have g3 : M2 3 3 = nI i := by rw [m3]; exact f3
          have g6 : ∀ k, k ≠ 3 → k ≠ 5 → k ≠ 6 → k ≠ 7 → k ≠ 8 → M2 k = M k := fun k k3 k5 k6 k7 k8 => by rw [mk k k3, f6 k k3 k5 k6 k7 k8]
          have g44 : M2 4 = T := by rw [mk 4 (by decide), g4]
          refine x_aload_n hO dX2_readRules_34 rfl rfl ?_
          refine x_iload_n hO dX2_readRules_35 rfl rfl ?_
          refine x_callV hO (k_readRank U M2 (n := n) (p := p + 9) (r := i) g1 g2 hn (by omega) hi) dX2_readRules_36 lkX2_45 fX2_readRank vX2_readRank (by decide) rfl rfl rfl rfl rfl (by decide) (Nat.le_of_ble_eq_true rfl) (fun r M3 h4 => ?_)
          obtain ⟨rfl, r3, r7, rk⟩ := h4
          rw [g44] at r3 r7 ⊢
          have s1 : M3 3 1 = nI n := by rw [r3]; exact g1
          have s3 : M3 3 3 = nI i := by rw [r3]; exact g3
          have s6 : ∀ k, k ≠ 3 → k ≠ 5 → k ≠ 6 → k ≠ 7 → k ≠ 8 → M3 k = M k := fun k k3 k5 k6 k7 k8 => by rw [rk k k3 k7, g6 k k3 k5 k6 k7 k8]
          have s44 : M3 4 = T := by rw [rk 4 (by decide) (by decide), g44]
          refine x_if_eq (tgt := 59) hO dX2_readRules_39 (by decide) (fun c3 => ?_) (fun c3 => ?_)
          · have q3 := bI_0 c3
            refine fail M3 s1 ?_ s6 (by unfold rOK; simp [q3])
            rw [r3, q3]
            unfold rEnd
            rw [if_pos q, if_pos q2, q3]
            rfl
          · have q3 := bI_1 c3
            have l10 := isD_lt q3
            have k12 := rK_12 T n p
            have ekk : (if isD (sg T n (p + 9 + 1)) then p + 9 + 2 else p + 9 + 1) = p + 9 + rK T n p := by
              unfold rK
              rw [show p + 9 + 1 = p + 10 from rfl]
              split <;> rfl
            have s2 : M3 3 2 = nI (p + 9 + rK T n p) := by rw [r3, q3, if_pos rfl, ekk]; rfl
            have lk : p + 9 + rK T n p ≤ n := by
              unfold rK
              split
              · rename_i z
                have := isD_lt z
                omega
              · omega
            have s7 := r7 q3
            refine x_aload_n hO dX2_readRules_42 rfl rfl ?_
            refine x_bipush (v := nI 44) hO dX2_readRules_43 rfl ?_
            refine x_callV hO (k_skip U M3 (n := n) (p := p + 9 + rK T n p) s1 s2 hn lk (nI 44)) dX2_readRules_45 lkX2_41 fX2_skip vX2_skip (by decide) rfl rfl rfl rfl rfl (by decide) (Nat.le_of_ble_eq_true rfl) (fun r M4 h5 => ?_)
            obtain ⟨rfl, h5⟩ := h5
            rw [s44] at h5 ⊢
            refine x_if_eq (tgt := 59) hO dX2_readRules_48 (by decide) (fun c4 => ?_) (fun c4 => ?_)
            · have q4 : ¬ sg T n (p + 9 + rK T n p) = nI 44 := by have := bI_0 c4; simpa using this
              rw [if_neg q4] at h5
              rw [h5]
              exact fail M3 s1 (by rw [s2]; unfold rEnd; rw [if_pos q, if_pos q2, if_pos q3, if_neg q4]) s6 (by unfold rOK; simp [q4])
            · have q4 : sg T n (p + 9 + rK T n p) = nI 44 := by have := bI_1 c4; simpa using this
              have l11 := sg_lt q4 (by decide)
              rw [if_pos q4] at h5
              have t3 : M4 3 = upd (M3 3) 2 (nI (p + 9 + rK T n p + 1)) := by rw [h5, xset_same]
              have tk : ∀ k, k ≠ 3 → M4 k = M3 k := fun k hk => by rw [h5, xset_ne _ _ _ hk]
              clear h5
              have t1 : M4 3 1 = nI n := by rw [t3]; exact s1
              have t2 : M4 3 2 = nI (p + 10 + rK T n p) := by rw [t3, show p + 10 + rK T n p = p + 9 + rK T n p + 1 by omega]; rfl
              have t33 : M4 3 3 = nI i := by rw [t3]; exact s3
              have t6 : ∀ k, k ≠ 3 → k ≠ 5 → k ≠ 6 → k ≠ 7 → k ≠ 8 → M4 k = M k := fun k k3 k5 k6 k7 k8 => by rw [tk k k3, s6 k k3 k5 k6 k7 k8]
              have t44 : M4 4 = T := by rw [tk 4 (by decide), s44]
              refine x_aload_n hO dX2_readRules_51 rfl rfl ?_
              refine x_iload_n hO dX2_readRules_52 rfl rfl ?_
              refine x_callV hO (k_readAction U M4 (n := n) (p := p + 10 + rK T n p) (r := i) t1 t2 hn (by omega) hi) dX2_readRules_53 lkX2_48 fX2_readAction vX2_readAction (by decide) rfl rfl rfl rfl rfl (by decide) (Nat.le_of_ble_eq_true rfl) (fun r M5 h6 => ?_)
              obtain ⟨rfl, u3, u8, uk⟩ := h6
              rw [t44] at u3 u8 ⊢
              have v1 : M5 3 1 = nI n := by rw [u3]; exact t1
              have v3 : M5 3 3 = nI i := by rw [u3]; exact t33
              have v6 : ∀ k, k ≠ 3 → k ≠ 5 → k ≠ 6 → k ≠ 7 → k ≠ 8 → M5 k = M k := fun k k3 k5 k6 k7 k8 => by rw [uk k k3 k8, t6 k k3 k5 k6 k7 k8]
              refine x_if_ne (tgt := 64) hO dX2_readRules_56 (by decide) (fun c5 => ?_) (fun c5 => ?_)
              · have q5 := bI_1 c5
                have ok : rOK T n p = true := by
                  unfold rOK
                  rw [decide_eq_true q, q3, q5, beq_iff_eq.mpr q2, beq_iff_eq.mpr q4]
                  rfl
                obtain ⟨en, el⟩ := rOK_end ok
                have v2 : M5 3 2 = nI (rEnd T n p) := by
                  rw [u3, q5, if_pos rfl, en, show p + 11 + rK T n p = p + 10 + rK T n p + 1 by omega]
                  rfl
                have v8 := u8 q5
                rw [ok] at hg2
                simp only [if_true] at hg2
                have dat : tDat T n (i + 1) M5 := by
                  refine tDat_s a5 ?_ ?_ ?_ ?_
                  · rw [hp, uk 5 (by decide) (by decide), tk 5 (by decide), rk 5 (by decide) (by decide), mk 5 (by decide), e5]
                  · rw [hp, uk 6 (by decide) (by decide), tk 6 (by decide), rk 6 (by decide) (by decide), mk 6 (by decide), e6]
                  · rw [hp, uk 7 (by decide) (by decide), tk 7 (by decide), s7, mk 7 (by decide), ek 7 (by decide) (by decide) (by decide)]
                    rfl
                  · rw [hp, v8, tk 8 (by decide), rk 8 (by decide) (by decide), mk 8 (by decide), ek 8 (by decide) (by decide) (by decide)]
                    rfl
                refine x_aload_n hO dX2_readRules_64 rfl rfl ?_
                refine x_dup hO dX2_readRules_65 ?_
                refine x_getI (T := TX2) (j := 3) hO dX2_readRules_66 flX2_22 (by decide) rfl rfl (by decide) rfl rfl ?_
                rw [v3]
                refine x_iconst (v := nI 1) hO dX2_readRules_69 rfl ?_
                refine x_iadd hO dX2_readRules_70 ?_
                rw [nI_add]
                refine x_put (T := TX2) (j := 3) (ty := .int) hO dX2_readRules_71 flX2_22 (by decide) rfl rfl (by decide) rfl rfl rfl (by decide +kernel) rfl rfl ?_
                have w3 : xset M5 3 3 (nI (i + 1)) 3 = upd (M5 3) 3 (nI (i + 1)) := xset_same ..
                have wk : ∀ k, k ≠ 3 → xset M5 3 3 (nI (i + 1)) k = M5 k := fun k hk => xset_ne _ _ _ hk
                generalize xset M5 3 3 (nI (i + 1)) = M6 at *
                have w1 : M6 3 1 = nI n := by rw [w3]; exact v1
                have w2 : M6 3 2 = nI (rEnd T n p) := by rw [w3]; exact v2
                have w33 : M6 3 3 = nI (i + 1) := by rw [w3]; rfl
                have w6 : ∀ k, k ≠ 3 → k ≠ 5 → k ≠ 6 → k ≠ 7 → k ≠ 8 → M6 k = M k := fun k k3 k5 k6 k7 k8 => by rw [wk k k3, v6 k k3 k5 k6 k7 k8]
                have w44 : M6 4 = T := by rw [w6 4 (by decide) (by decide) (by decide) (by decide) (by decide), hT]
                have wd : tDat T n (i + 1) M6 := fun j hj => by
                  rw [wk 5 (by decide), wk 6 (by decide), wk 7 (by decide), wk 8 (by decide)]
                  exact dat j hj
                refine x_aload_n hO dX2_readRules_74 rfl rfl ?_
                refine x_getI (T := TX2) (j := 2) hO dX2_readRules_75 flX2_19 (by decide) rfl rfl (by decide) rfl rfl ?_
                refine x_aload_n hO dX2_readRules_78 rfl rfl ?_
                refine x_getI (T := TX2) (j := 1) hO dX2_readRules_79 flX2_15 (by decide) rfl rfl (by decide) rfl rfl ?_
                rw [w1, w2]
                refine x_icmp_ne (tgt := 87) hO dX2_readRules_82 (by decide) (fun c6 => ?_) (fun c6 => ?_)
                · have q6 : ¬ rEnd T n p = n := fun z => c6 (by rw [z])
                  rw [if_neg q6] at hg2
                  refine x_aload_n hO dX2_readRules_87 rfl rfl ?_
                  refine x_bipush (v := nI 59) hO dX2_readRules_88 rfl ?_
                  refine x_callV hO (k_skip U M6 (n := n) (p := rEnd T n p) w1 w2 hn (by omega) (nI 59)) dX2_readRules_90 lkX2_41 fX2_skip vX2_skip (by decide) rfl rfl rfl rfl rfl (by decide) (Nat.le_of_ble_eq_true rfl) (fun r M7 h7 => ?_)
                  obtain ⟨rfl, h7⟩ := h7
                  rw [w44] at h7 ⊢
                  refine x_if_ne (tgt := 101) hO dX2_readRules_93 (by decide) (fun c7 => ?_) (fun c7 => ?_)
                  · have q7 : sg T n (rEnd T n p) = nI 59 := by have := bI_1 c7; simpa using this
                    have l12 := sg_lt q7 (by decide)
                    rw [if_pos q7] at h7 hg2
                    subst h7
                    refine x_iinc hO dX2_readRules_101 rfl (by first | exact xinc_n _ | rfl) rfl hN ?_
                    refine x_goto (tgt := 12) hO dX2_readRules_104 (by decide) ?_
                    refine ih _ ?_ ?_ ?_ ?_ ?_ ?_ ?_
                    · rw [xset_same]; exact w1
                    · rw [xset_same]
                      show nI (rEnd T n p + 1) = nI (rEnd T n (tB T n i) + 1)
                      rw [hp]
                    · rw [xset_same]; exact w33
                    · show rEnd T n (tB T n i) + 1 ≤ n
                      rw [hp]
                      omega
                    · intro j hj
                      rw [xset_ne _ _ _ (by decide), xset_ne _ _ _ (by decide), xset_ne _ _ _ (by decide), xset_ne _ _ _ (by decide)]
                      exact wd j hj
                    · intro k k3 k5 k6 k7 k8
                      rw [xset_ne _ _ _ k3, w6 k k3 k5 k6 k7 k8]
                    · show tx T n d (rEnd T n (tB T n i) + 1) (i + 1) = g
                      rw [hp]
                      exact hg2
                  · have q7 : ¬ sg T n (rEnd T n p) = nI 59 := by have := bI_0 c7; simpa using this
                    rw [if_neg q7] at h7 hg2
                    subst h7
                    refine x_aload_n hO dX2_readRules_96 rfl rfl ?_
                    refine x_getI (T := TX2) (j := 2) hO dX2_readRules_97 flX2_19 (by decide) rfl rfl (by decide) rfl rfl ?_
                    rw [w2]
                    refine x_iret hO hR dX2_readRules_100 rfl ?_
                    rw [← hg2]
                    exact ⟨rfl, fun z => absurd z (by simp), w1, w6⟩
                · have q6 : rEnd T n p = n := (nI_eq (by omega) (by omega)).mp c6
                  rw [if_pos q6] at hg2
                  refine x_iconst (v := (-1 : Int32)) hO dX2_readRules_85 rfl ?_
                  refine x_iret hO hR dX2_readRules_86 rfl ?_
                  rw [← hg2]
                  exact ⟨rfl, fun _ => ⟨w33, wd⟩, w1, w6⟩
              · have q5 := bI_0 c5
                refine fail M5 v1 ?_ v6 (by unfold rOK; simp [q5])
                rw [u3, q5]
                unfold rEnd
                rw [if_pos q, if_pos q2, if_pos q3, if_pos q4, q5]
                rfl
  · exact h1
  · rfl
  · rfl
  · rw [xset_ne _ _ _ h3, xset_ne _ _ _ h3]
