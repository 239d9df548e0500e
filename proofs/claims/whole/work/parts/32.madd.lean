/-! ===== makeRoom, add ===== -/
def aUq (A : aR) (b n k : Nat) : aR := fun s => if b + k < s ∧ s ≤ b + n then A (s - 1) else A s
theorem aUq_n (A : aR) (b n : Nat) : aUq A b n n = A := by
  funext s
  unfold aUq
  rw [if_neg (by omega)]
theorem aUq_s (A : aR) (b n k : Nat) (hk : k < n) : (fun s => if s = b + k + 1 then aUq A b n (k + 1) (b + k) else aUq A b n (k + 1) s) = aUq A b n k := by
  funext s
  unfold aUq
  by_cases e : s = b + k + 1
  · rw [if_pos e, if_neg (by omega), if_pos (by omega)]
    congr 1
    omega
  · rw [if_neg e]
    by_cases e2 : b + k < s ∧ s ≤ b + n
    · rw [if_pos e2, if_pos (by omega)]
    · rw [if_neg e2, if_neg (by omega)]
def aDq (A : aR) (l n k : Nat) : aR := fun s => if l - n ≤ s ∧ s < l - n + k then A (s + 1) else A s
theorem aDq_0 (A : aR) (l n : Nat) : aDq A l n 0 = A := by
  funext s
  unfold aDq
  rw [if_neg (by omega)]
theorem aDq_s (A : aR) (l n k : Nat) : (fun s => if s = l - n + k then aDq A l n k (l - n + k + 1) else aDq A l n k s) = aDq A l n (k + 1) := by
  funext s
  unfold aDq
  by_cases e : s = l - n + k
  · rw [if_pos e, if_neg (by omega), if_pos (by omega), e]
  · rw [if_neg e]
    by_cases e2 : l - n ≤ s ∧ s < l - n + k
    · rw [if_pos e2, if_pos (by omega)]
    · rw [if_neg e2, if_neg (by omega)]
theorem nm_add : ∀ p, p < 33 → ∀ k, k < p → nI p + nm k = nI (p - 1 - k) := by decide +kernel
theorem upd_id (f : Nat → Int32) (k : Nat) : upd f k (f k + nI 0) = f := by
  funext j
  rw [upd_at]
  split
  · rename_i e
    rw [e]
    exact Int32.add_zero _
  · rfl
theorem m_makeRoom (U : xP) (M : xM) (x : Int32) (h : aCnt (nA M) < 32) (hs : srt (nA M)) : xMetI U mX4_makeRoom [.inr 9, .inl x] M (fun r M' => r = nI (oS (nA M) (nG M 0) x) ∧ ∃ B, mSm M M' B (upd (nG M) 2 (nG M 2 + nI (oM (nA M) x))) ∧ ∀ s, s ≠ oS (nA M) (nG M 0) x → B s = oA (nA M) x s) := by
  refine xMetI.of (ty := .int) (L := [some (.inr 9), some (.inl x), none, none, none, none]) fX4_makeRoom rfl rfl (Nat.le_of_ble_eq_true rfl) (fun G hN hO hR => ?_)
  have hN : G.2.2.2.2.2.2.2.2.2.2.1 = 6 := hN
  have hO : xOK U G RX4 cX4_makeRoom 3 := hO
  have h1 := aP_le (nA M) x
  have h2 := aB_le (nA M) x
  have hpb := srt_pb hs (nA_ge M) x
  have g0 : M 10 224 = nG M 0 := (nG_at M (j := 0) (by decide)).symm
  have g2 : M 10 226 = nG M 2 := (nG_at M (j := 2) (by decide)).symm
  unfold oS oA oM at hR
  refine x_aload_n hO dX4_makeRoom_0 rfl rfl ?_
  refine x_iload_n hO dX4_makeRoom_1 rfl rfl ?_
  refine x_callV1 hO (m_lastUpTo U M x) dX4_makeRoom_2 lkX4_59 fX4_lastUpTo vX4_lastUpTo (by decide) rfl rfl rfl rfl rfl (by decide) (Nat.le_of_ble_eq_true rfl) ?_
  refine x_istore_n (n := 6) hO dX4_makeRoom_5 rfl rfl (by decide) hN ?_
  refine x_aload_n hO dX4_makeRoom_6 rfl rfl ?_
  refine x_iload_n hO dX4_makeRoom_7 rfl rfl ?_
  refine x_callV1 hO (m_firstAbove U M x) dX4_makeRoom_8 lkX4_63 fX4_firstAbove vX4_firstAbove (by decide) rfl rfl rfl rfl rfl (by decide) (Nat.le_of_ble_eq_true rfl) ?_
  refine x_istore_n (n := 6) hO dX4_makeRoom_11 rfl rfl (by decide) hN ?_
  refine x_aload_n hO dX4_makeRoom_12 rfl rfl ?_
  refine x_iload_n hO dX4_makeRoom_13 rfl rfl ?_
  refine x_callV1 hO (m_moves U M x h hs) dX4_makeRoom_14 lkX4_72 fX4_moves vX4_moves (by decide) rfl rfl rfl rfl rfl (by decide) (Nat.le_of_ble_eq_true rfl) ?_
  unfold mMv
  refine x_istore (n := 6) hO dX4_makeRoom_17 rfl (by decide) hN ?_
  refine x_iload_n hO dX4_makeRoom_19 rfl rfl ?_
  refine x_iload_n hO dX4_makeRoom_20 rfl rfl ?_
  refine x_isub hO dX4_makeRoom_21 ?_
  refine x_iconst (v := nI 1) hO dX4_makeRoom_22 rfl ?_
  change XW U G _ _ [.inl (nI 1), .inl (nI (aB (nA M) x) - xm (aP (nA M) x))] M
  refine x_icmp_le (tgt := 67) hO dX4_makeRoom_23 (by decide) (fun c => ?_) (fun c => ?_)
  · have q : aB (nA M) x = aP (nA M) x := by have := (xm_gap _ (by omega) _ (by omega)).mp c; omega
    simp only [if_neg (show ¬ aP (nA M) x < aB (nA M) x by omega)] at hR ⊢
    have h3 := oM_free h h1 (Nat.le_of_eq q)
    have u3 := aMu_33 (nA M) (aB (nA M) x)
    have d3 := aMd_33 (nA M) h1
    by_cases q2 : aMu (nA M) (aB (nA M) x) ≤ aMd (nA M) (aP (nA M) x)
    · simp only [if_pos q2] at hR ⊢
      rw [Nat.min_eq_left q2] at hR
      have hu := (aMu_le (A := nA M) (f := aB (nA M) x) (by omega)).1
      generalize aMu (nA M) (aB (nA M) x) = n at *
      generalize aB (nA M) x = b at *
      generalize aP (nA M) x = p at *
      refine x_iload hO dX4_makeRoom_67 rfl ?_
      refine x_if_lt (tgt := 115) hO dX4_makeRoom_69 (by decide) (fun c1 => ?_) (fun c1 => ?_)
      · exact absurd c1 (nI_pos (by omega))
      · refine x_iload_n hO dX4_makeRoom_72 rfl rfl ?_
        refine x_iload hO dX4_makeRoom_73 rfl ?_
        refine x_iadd hO dX4_makeRoom_75 ?_
        rw [nI_add]
        refine x_istore (n := 6) hO dX4_makeRoom_76 rfl (by decide) hN ?_
        have loop : ∀ k, k ≤ n → ∀ M1, mSm M M1 (aUq (nA M) b n k) (nG M) → XW U G 78 [some (.inr 9), some (.inl x), some (.inl (xm p)), some (.inl (nI b)), some (.inl (nI n)), some (.inl (nI (b + k)))] [] M1 := by
          intro k
          induction k with
          | zero =>
            intro _ M1 m1
            refine x_iload hO dX4_makeRoom_78 rfl ?_
            refine x_iload_n hO dX4_makeRoom_80 rfl rfl ?_
            refine x_icmp_le (tgt := 100) hO dX4_makeRoom_81 (by decide) (fun c2 => ?_) (fun c2 => ?_)
            · have l226 : 226 < 229 := by decide
              refine x_aload_n hO dX4_makeRoom_100 rfl rfl ?_
              refine x_getR (T := TX4) (j := 0) hO dX4_makeRoom_101 flX4_7 (by decide) rfl rfl (by decide) rfl rfl ?_
              refine x_sipush (v := nI 226) hO dX4_makeRoom_104 rfl ?_
              refine x_dup2 hO dX4_makeRoom_107 ?_
              refine x_iald hO (by decide) rfl (by decide) (rfl) (l226) dX4_makeRoom_108 ?_
              refine x_iload hO dX4_makeRoom_109 rfl ?_
              have e : M1 10 226 = nG M 2 := m1.2.1 2 (by decide)
              rw [e]
              refine x_iadd hO dX4_makeRoom_111 ?_
              refine x_iast hO (by decide) rfl (by decide) (rfl) (l226) dX4_makeRoom_112 ?_
              refine x_iload_n hO dX4_makeRoom_113 rfl rfl ?_
              refine x_iret hO hR dX4_makeRoom_114 rfl ?_
              refine ⟨rfl, aUq (nA M) b n 0, ?_, fun s hs => ?_⟩
              · have m2 := m1.tr (mSm.num (M := M1) (j := 2) (by decide) (nG M 2 + nI n))
                rw [m1.1] at m2
                refine m2.gc (fun j hj => ?_)
                rw [upd_at, upd_at]
                split
                · rfl
                · exact m1.g hj
              · unfold aUq aUp
                by_cases z : b + 0 < s ∧ s ≤ b + n
                · rw [if_pos z, if_pos z]
                · rw [if_neg z, if_neg z, if_neg (by omega)]
            · exact absurd (Int32.le_refl _) c2
          | succ k ih =>
            intro hk M1 m1
            refine x_iload hO dX4_makeRoom_78 rfl ?_
            refine x_iload_n hO dX4_makeRoom_80 rfl rfl ?_
            refine x_icmp_le (tgt := 100) hO dX4_makeRoom_81 (by decide) (fun c2 => ?_) (fun c2 => ?_)
            · exact absurd c2 (nI_ge (by omega) (by omega))
            · refine x_aload_n hO dX4_makeRoom_84 rfl rfl ?_
              refine x_iload hO dX4_makeRoom_85 rfl ?_
              refine x_iconst (v := nI 1) hO dX4_makeRoom_87 rfl ?_
              refine x_isub hO dX4_makeRoom_88 ?_
              rw [show b + (k + 1) = b + k + 1 from rfl, nI_sub1]
              refine x_iload hO dX4_makeRoom_89 rfl ?_
              refine x_callVv hO (m_copyEntry U M1 (i := b + k) (j := b + k + 1) (by omega) (by omega) (by omega)) dX4_makeRoom_91 lkX4_75 fX4_copyEntry vX4_copyEntry (by decide) rfl rfl rfl rfl rfl (by decide) (Nat.le_of_ble_eq_true rfl) (fun M2 m2 => ?_)
              have m3 := m1.tr m2
              rw [m1.1, aUq_s _ _ _ _ (by omega)] at m3
              refine x_iinc hO dX4_makeRoom_94 rfl (by first | exact xdec_n _ | rfl) rfl hN ?_
              refine x_goto (tgt := 78) hO dX4_makeRoom_97 (by decide) ?_
              exact ih (by omega) M2 (m3.gc (fun j hj => m1.g hj))
        exact loop n (Nat.le_refl _) M (by rw [aUq_n]; exact mSm.rf M)
    · simp only [if_neg q2] at hR ⊢
      rw [Nat.min_eq_right (by omega)] at hR
      have hd := (aMd_le (A := nA M) h1 (by omega)).1
      obtain ⟨l, hl⟩ : ∃ l, aP (nA M) x = l + 1 := ⟨aP (nA M) x - 1, by omega⟩
      rw [hl] at hR hd q ⊢
      generalize aMd (nA M) (l + 1) = n at *
      generalize aB (nA M) x = b at *
      rw [xm_s]
      simp only [Nat.add_sub_cancel] at hR
      refine x_iload hO dX4_makeRoom_67 rfl ?_
      refine x_if_lt (tgt := 115) hO dX4_makeRoom_69 (by decide) (fun c1 => ?_) (fun c1 => ?_)
      · refine x_iload_n hO dX4_makeRoom_115 rfl rfl ?_
        refine x_iconst (v := nI 1) hO dX4_makeRoom_116 rfl ?_
        refine x_iadd hO dX4_makeRoom_117 ?_
        refine x_iload hO dX4_makeRoom_118 rfl ?_
        rw [show nI l + nI 1 = nI (l + 1) from nI_add l 1]
        refine x_iadd hO dX4_makeRoom_120 ?_
        rw [nm_add _ (by omega) _ hd, show l + 1 - 1 - n = l - n by omega]
        refine x_istore (n := 6) hO dX4_makeRoom_121 rfl (by decide) hN ?_
        refine upd_ind (P := fun k _ => ∀ M1, mSm M M1 (aDq (nA M) l n k) (nG M) → XW U G 123 [some (.inr 9), some (.inl x), some (.inl (nI l)), some (.inl (nI b)), some (.inl (nm n)), some (.inl (nI (l - n + k)))] [] M1) n ?_ ?_ n 0 (by omega) M (by rw [aDq_0]; exact mSm.rf M)
        · intro M1 m1
          refine x_iload hO dX4_makeRoom_123 rfl ?_
          refine x_iload_n hO dX4_makeRoom_125 rfl rfl ?_
          refine x_icmp_ge (tgt := 145) hO dX4_makeRoom_126 (by decide) (fun c2 => ?_) (fun c2 => ?_)
          · have l226 : 226 < 229 := by decide
            refine x_aload_n hO dX4_makeRoom_145 rfl rfl ?_
            refine x_getR (T := TX4) (j := 0) hO dX4_makeRoom_146 flX4_7 (by decide) rfl rfl (by decide) rfl rfl ?_
            refine x_sipush (v := nI 226) hO dX4_makeRoom_149 rfl ?_
            refine x_dup2 hO dX4_makeRoom_152 ?_
            refine x_iald hO (by decide) rfl (by decide) (rfl) (l226) dX4_makeRoom_153 ?_
            refine x_iconst (v := (-1 : Int32)) hO dX4_makeRoom_154 rfl ?_
            refine x_iload hO dX4_makeRoom_155 rfl ?_
            refine x_isub hO dX4_makeRoom_157 ?_
            have e : M1 10 226 = nG M 2 := m1.2.1 2 (by decide)
            rw [e]
            change XW U G _ _ [.inl ((-1 : Int32) - nm n), .inl (nG M 2), .inl (nI 226), .inr 10] M1
            rw [nm_back n (by omega)]
            refine x_iadd hO dX4_makeRoom_158 ?_
            refine x_iast hO (by decide) rfl (by decide) (rfl) (l226) dX4_makeRoom_159 ?_
            refine x_iload_n hO dX4_makeRoom_160 rfl rfl ?_
            refine x_iret hO hR dX4_makeRoom_161 rfl ?_
            refine ⟨rfl, aDq (nA M) l n n, ?_, fun s hs => ?_⟩
            · have m2 := m1.tr (mSm.num (M := M1) (j := 2) (by decide) (nG M 2 + nI n))
              rw [m1.1] at m2
              refine m2.gc (fun j hj => ?_)
              rw [upd_at, upd_at]
              split
              · rfl
              · exact m1.g hj
            · unfold aDq aDn
              by_cases z : l - n ≤ s ∧ s < l - n + n
              · rw [if_pos z, if_pos z]
              · rw [if_neg z, if_neg z, if_neg (by omega)]
          · exact absurd (nI_le (by omega) (by omega)) c2
        · intro k d hd2 ih M1 m1
          refine x_iload hO dX4_makeRoom_123 rfl ?_
          refine x_iload_n hO dX4_makeRoom_125 rfl rfl ?_
          refine x_icmp_ge (tgt := 145) hO dX4_makeRoom_126 (by decide) (fun c2 => ?_) (fun c2 => ?_)
          · exact absurd c2 (nI_ge (by omega) (by omega))
          · refine x_aload_n hO dX4_makeRoom_129 rfl rfl ?_
            refine x_iload hO dX4_makeRoom_130 rfl ?_
            refine x_iconst (v := nI 1) hO dX4_makeRoom_132 rfl ?_
            refine x_iadd hO dX4_makeRoom_133 ?_
            rw [nI_add]
            refine x_iload hO dX4_makeRoom_134 rfl ?_
            refine x_callVv hO (m_copyEntry U M1 (i := l - n + k + 1) (j := l - n + k) (by omega) (by omega) (by omega)) dX4_makeRoom_136 lkX4_75 fX4_copyEntry vX4_copyEntry (by decide) rfl rfl rfl rfl rfl (by decide) (Nat.le_of_ble_eq_true rfl) (fun M2 m2 => ?_)
            have m3 := m1.tr m2
            rw [m1.1, aDq_s] at m3
            refine x_iinc hO dX4_makeRoom_139 rfl (by first | exact xinc_n _ | rfl) rfl hN ?_
            refine x_goto (tgt := 123) hO dX4_makeRoom_142 (by decide) ?_
            exact ih M2 (m3.gc (fun j hj => m1.g hj))
      · exact absurd (nm_neg n (by omega)).1 c1
  · have q : aP (nA M) x < aB (nA M) x := by
      rcases Nat.lt_or_ge (aP (nA M) x) (aB (nA M) x) with q | q
      · exact q
      · exact absurd ((xm_gap _ (by omega) _ (by omega)).mpr q) c
    simp only [if_pos q] at hR ⊢
    have fin : ∀ v, v = nI (aPl (nG M 0) (aP (nA M) x) (aB (nA M) x)) → XW U G 66 [some (.inr 9), some (.inl x), some (.inl (xm (aP (nA M) x))), some (.inl (nI (aB (nA M) x))), some (.inl (nI 0)), none] [.inl v] M := by
      intro v hv
      refine x_iret hO hR dX4_makeRoom_66 rfl ?_
      exact ⟨hv, nA M, (mSm.rf M).gc (fun j _ => by rw [upd_id]), fun s _ => rfl⟩
    unfold aPl at fin
    have l224 : 224 < 229 := by decide
    refine x_aload_n hO dX4_makeRoom_26 rfl rfl ?_
    refine x_getR (T := TX4) (j := 0) hO dX4_makeRoom_27 flX4_7 (by decide) rfl rfl (by decide) rfl rfl ?_
    refine x_sipush (v := nI 224) hO dX4_makeRoom_30 rfl ?_
    refine x_iald hO (by decide) rfl (by decide) (rfl) (l224) dX4_makeRoom_33 ?_
    rw [g0]
    refine x_if_ne (tgt := 43) hO dX4_makeRoom_34 (by decide) (fun c1 => ?_) (fun c1 => ?_)
    · rw [if_neg c1] at fin
      refine x_aload_n hO dX4_makeRoom_43 rfl rfl ?_
      refine x_getR (T := TX4) (j := 0) hO dX4_makeRoom_44 flX4_7 (by decide) rfl rfl (by decide) rfl rfl ?_
      refine x_sipush (v := nI 224) hO dX4_makeRoom_47 rfl ?_
      refine x_iald hO (by decide) rfl (by decide) (rfl) (l224) dX4_makeRoom_50 ?_
      refine x_iconst (v := nI 1) hO dX4_makeRoom_51 rfl ?_
      rw [g0]
      refine x_icmp_ne (tgt := 63) hO dX4_makeRoom_52 (by decide) (fun c2 => ?_) (fun c2 => ?_)
      · rw [if_neg c2] at fin
        refine x_iload_n hO dX4_makeRoom_63 rfl rfl ?_
        refine x_iconst (v := nI 1) hO dX4_makeRoom_64 rfl ?_
        refine x_isub hO dX4_makeRoom_65 ?_
        exact fin _ (pk_sub (by omega))
      · rw [if_pos c2] at fin
        have n2 : ¬ nI 2 = 0 := by decide
        refine x_iload_n hO dX4_makeRoom_55 rfl rfl ?_
        refine x_iload_n hO dX4_makeRoom_56 rfl rfl ?_
        refine x_iadd hO dX4_makeRoom_57 ?_
        refine x_iconst (v := nI 2) hO dX4_makeRoom_58 rfl ?_
        refine x_idiv hO dX4_makeRoom_59 (n2) ?_
        refine x_goto (tgt := 66) hO dX4_makeRoom_60 (by decide) ?_
        exact fin _ (xm_mid _ (by omega) _ q)
    · rw [if_pos c1] at fin
      refine x_iload_n hO dX4_makeRoom_37 rfl rfl ?_
      refine x_iconst (v := nI 1) hO dX4_makeRoom_38 rfl ?_
      refine x_iadd hO dX4_makeRoom_39 ?_
      refine x_goto (tgt := 66) hO dX4_makeRoom_40 (by decide) ?_
      exact fin _ (xm_inc _)
theorem m_add (U : xP) (M : xM) (v m k a : Int32) (h : aCnt (nA M) < 32) (hs : srt (nA M)) (hr : nG M 1 ≠ -1) : xMetI U mX4_add [.inr 9, .inl v, .inl m, .inl k, .inl a] M (fun r M' => r = nG M 1 ∧ mSm M M' (addS (nA M, nG M) v m k a).1 (addS (nA M, nG M) v m k a).2) := by
  refine xMetI.of (ty := .int) (L := [some (.inr 9), some (.inl v), some (.inl m), some (.inl k), some (.inl a), none]) fX4_add rfl rfl (Nat.le_of_ble_eq_true rfl) (fun G hN hO hR => ?_)
  have hN : G.2.2.2.2.2.2.2.2.2.2.1 = 6 := hN
  have hO : xOK U G RX4 cX4_add 4 := hO
  have g1 : M 10 225 = nG M 1 := (nG_at M (j := 1) (by decide)).symm
  have l225 : 225 < 229 := by decide
  refine x_aload_n hO dX4_add_0 rfl rfl ?_
  refine x_getR (T := TX4) (j := 0) hO dX4_add_1 flX4_7 (by decide) rfl rfl (by decide) rfl rfl ?_
  refine x_sipush (v := nI 225) hO dX4_add_4 rfl ?_
  refine x_iald hO (by decide) rfl (by decide) (rfl) (l225) dX4_add_7 ?_
  rw [g1]
  refine x_istore (n := 6) hO dX4_add_8 rfl (by decide) hN ?_
  refine x_aload_n hO dX4_add_10 rfl rfl ?_
  refine x_aload_n hO dX4_add_11 rfl rfl ?_
  refine x_iload_n hO dX4_add_12 rfl rfl ?_
  refine x_callV hO (m_makeRoom U M k h hs) dX4_add_13 lkX4_82 fX4_makeRoom vX4_makeRoom (by decide) rfl rfl rfl rfl rfl (by decide) (Nat.le_of_ble_eq_true rfl) (fun r M1 m1 => ?_)
  obtain ⟨rfl, B, m1, mb⟩ := m1
  refine x_iload hO dX4_add_16 rfl ?_
  refine x_iconst (v := nI 0) hO dX4_add_18 rfl ?_
  refine x_iload_n hO dX4_add_19 rfl rfl ?_
  refine x_iload_n hO dX4_add_20 rfl rfl ?_
  refine x_iload_n hO dX4_add_21 rfl rfl ?_
  refine x_iand hO dX4_add_22 ?_
  refine x_iload_n hO dX4_add_23 rfl rfl ?_
  refine x_iload hO dX4_add_24 rfl ?_
  refine x_callVv hO (m_put U M1 (j := oS (nA M) (nG M 0) k) (oS_lt _ _ h) (nG M 1) (nI 0) m (v &&& m) k a v hr rfl) dX4_add_26 lkX4_85 fX4_put vX4_put (by decide) rfl rfl rfl rfl rfl (by decide) (Nat.le_of_ble_eq_true rfl) (fun M2 m2 => ?_)
  have m3 := m1.tr m2
  rw [m1.1] at m3
  have e : (fun s => if s = oS (nA M) (nG M 0) k then rowOf (nG M 1) (nI 0) m v k a else B s) = aAdd (nA M) (nG M 0) k (rowOf (nG M 1) 0 m v k a) := by
    funext s
    unfold aAdd
    by_cases z : s = oS (nA M) (nG M 0) k
    · rw [if_pos z, if_pos z]
      rfl
    · rw [if_neg z, if_neg z, mb s z]
  rw [e] at m3
  have g2 : M2 10 225 = nG M 1 := by
    have := m2.2.1 1 (by decide)
    rw [m1.g (by decide)] at this
    exact this
  refine x_aload_n hO dX4_add_29 rfl rfl ?_
  refine x_getR (T := TX4) (j := 0) hO dX4_add_30 flX4_7 (by decide) rfl rfl (by decide) rfl rfl ?_
  refine x_sipush (v := nI 225) hO dX4_add_33 rfl ?_
  refine x_dup2 hO dX4_add_36 ?_
  refine x_iald hO (by decide) rfl (by decide) (rfl) (l225) dX4_add_37 ?_
  rw [g2]
  refine x_iconst (v := nI 1) hO dX4_add_38 rfl ?_
  refine x_iadd hO dX4_add_39 ?_
  refine x_iast hO (by decide) rfl (by decide) (rfl) (l225) dX4_add_40 ?_
  refine x_iload hO dX4_add_41 rfl ?_
  refine x_iret hO hR dX4_add_43 rfl ?_
  refine ⟨rfl, ?_⟩
  have m4 := m3.tr (mSm.num (M := M2) (j := 1) (by decide) (nG M 1 + nI 1))
  rw [m3.1] at m4
  refine m4.gc (fun j hj => ?_)
  unfold addS
  simp only [upd_at]
  rw [m3.g hj, m1.g hj, upd_at]
  by_cases e1 : j = 1
  · subst e1
    simp
  · by_cases e2 : j = 2
    · subst e2
      simp
    · simp [e1, e2]
