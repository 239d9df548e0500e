/-! ===== search ===== -/
theorem km_search (U : xP) (M : xM) {s : aO} (h : RM M s) {B : Nat} (w : WfO s B) (hB : B < 900000) (x : Int32) : xMetI U mX4_search [.inr 9, .inl x] M (poM M (o_search s x)) := by
  refine xMetI.of (ty := .int) (L := [some (.inr 9), some (.inl x), none]) fX4_search rfl rfl (Nat.le_of_ble_eq_true rfl) (fun G hN hO hR => ?_)
  have hN : G.2.2.2.2.2.2.2.2.2.2.1 = 3 := hN
  have hO : xOK U G RX4 cX4_search 4 := hO
  obtain ⟨⟨a0, l0, -, wA⟩, -, -⟩ := w
  unfold o_search at hR
  have hf32 : aFd s.1.1 x ≤ 32 := nF_32 (pKey s.1.1 x)
  have l227 : 227 < 229 := by decide
  have l228 : 228 < 229 := by decide
  refine x_iload_n hO dX4_search_0 rfl rfl ?_
  refine x_callS1 hO (m_isByte U M x) dX4_search_1 lkX4_79 fX4_isByte sX4_isByte rfl rfl (by decide) (Nat.le_of_ble_eq_true rfl) ?_
  refine x_if_ne (tgt := 10) hO dX4_search_4 (by decide) (fun c => ?_) (fun c => ?_)
  · rw [if_pos (bI_1 c)] at hR
    refine x_aload_n hO dX4_search_10 rfl rfl ?_
    refine x_iload_n hO dX4_search_11 rfl rfl ?_
    refine x_callV1 hO (m_slotFor U M x) dX4_search_12 lkX4_137 fX4_slotFor vX4_slotFor (by decide) rfl rfl rfl rfl rfl (by decide) (Nat.le_of_ble_eq_true rfl) ?_
    rw [h.rows]
    refine x_istore_n (n := 3) hO dX4_search_15 rfl rfl (by decide) hN ?_
    refine x_iload_n hO dX4_search_16 rfl rfl ?_
    refine x_bipush (v := nI 32) hO dX4_search_17 rfl ?_
    refine x_icmp_ne (tgt := 25) hO dX4_search_19 (by decide) (fun c2 => ?_) (fun c2 => ?_)
    · have q : aFd s.1.1 x < 32 := by
        rcases Nat.lt_or_ge (aFd s.1.1 x) 32 with z | z
        · exact z
        · exact absurd (by rw [show aFd s.1.1 x = 32 by omega]) c2
      rw [if_pos q] at hR
      have ho := aFd_oc q
      generalize aFd s.1.1 x = f at *
      refine x_aload_n hO dX4_search_25 rfl rfl ?_
      refine x_callVv hO (m_record U M h) dX4_search_26 lkX4_48 fX4_record vX4_record (by decide) rfl rfl rfl rfl rfl (by decide) (Nat.le_of_ble_eq_true rfl) (fun M1 m1 => ?_)
      obtain ⟨r1, f1, -⟩ := m1
      refine x_aload_n hO dX4_search_29 rfl rfl ?_
      refine x_getR (T := TX4) (j := 0) hO dX4_search_30 flX4_7 (by decide) rfl rfl (by decide) rfl rfl ?_
      refine x_sipush (v := nI 227) hO dX4_search_33 rfl ?_
      refine x_dup2 hO dX4_search_36 ?_
      refine x_iald hO (by decide) rfl (by decide) (rfl) (l227) dX4_search_37 ?_
      rw [show M1 10 227 = s.1.2 3 by rw [← (show nG M1 = s.1.2 from r1.nums)]; exact (nG_at M1 (j := 3) (by decide)).symm]
      refine x_iconst (v := nI 1) hO dX4_search_38 rfl ?_
      refine x_iadd hO dX4_search_39 ?_
      refine x_iast hO (by decide) rfl (by decide) (rfl) (l227) dX4_search_40 ?_
      have n1 := mSm.num (M := M1) (j := 3) (by decide) (s.1.2 3 + nI 1)
      have g1 : nG M1 = s.1.2 := r1.nums
      have b1 : nA M1 = s.1.1 := r1.rows
      rw [g1, b1] at n1
      have e1 : xset M1 10 227 (s.1.2 3 + nI 1) = xset M1 10 (224 + 3) (s.1.2 3 + nI 1) := rfl
      rw [e1]
      generalize xset M1 10 (224 + 3) (s.1.2 3 + nI 1) = M2 at *
      refine x_aload_n hO dX4_search_41 rfl rfl ?_
      refine x_getR (T := TX4) (j := 0) hO dX4_search_42 flX4_7 (by decide) rfl rfl (by decide) rfl rfl ?_
      refine x_sipush (v := nI 228) hO dX4_search_45 rfl ?_
      refine x_dup2 hO dX4_search_48 ?_
      refine x_iald hO (by decide) rfl (by decide) (rfl) (l228) dX4_search_49 ?_
      rw [show M2 10 228 = s.1.2 4 from n1.2.1 4 (by decide)]
      refine x_aload_n hO dX4_search_50 rfl rfl ?_
      refine x_iload_n hO dX4_search_51 rfl rfl ?_
      refine x_callV1 hO (m_powerOf U M2 (a := a0) (by rw [n1.1]; exact wA) x) dX4_search_52 lkX4_140 fX4_powerOf vX4_powerOf (by decide) rfl rfl rfl rfl rfl (by decide) (Nat.le_of_ble_eq_true rfl) ?_
      rw [n1.1]
      refine x_iadd hO dX4_search_55 ?_
      refine x_iast hO (by decide) rfl (by decide) (rfl) (l228) dX4_search_56 ?_
      have n2 := mSm.num (M := M2) (j := 4) (by decide) (s.1.2 4 + nI (aPw s.1.1 x 4))
      rw [n1.1] at n2
      have n3 := n1.tr n2
      have e2 : xset M2 10 228 (s.1.2 4 + nI (aPw s.1.1 x 4)) = xset M2 10 (224 + 4) (s.1.2 4 + nI (aPw s.1.1 x 4)) := rfl
      rw [e2]
      have n3 := n3.gc (g'' := upd (upd s.1.2 3 (s.1.2 3 + nI 1)) 4 (s.1.2 4 + nI (aPw s.1.1 x 4))) (fun j hj => by
        rw [upd_at, upd_at]
        split
        · rfl
        · exact n1.g hj)
      generalize xset M2 10 (224 + 4) (s.1.2 4 + nI (aPw s.1.1 x 4)) = M3 at *
      have ho3 : aoc (nA M3) f = true := by rw [n3.1]; exact ho
      have e0 : M3 10 (7 * f) - nI 1 = s.1.1 f 0 := by
        have := mA_0 (M := M3) ho3
        rw [Nat.zero_add] at this
        exact this.trans (by show nA M3 f 0 = _; rw [n3.1])
      refine x_aload_n hO dX4_search_57 rfl rfl ?_
      refine x_getR (T := TX4) (j := 0) hO dX4_search_58 flX4_7 (by decide) rfl rfl (by decide) rfl rfl ?_
      refine x_bipush (v := nI 7) hO dX4_search_61 rfl ?_
      refine x_aload_n hO dX4_search_63 rfl rfl ?_
      refine x_aload_n hO dX4_search_64 rfl rfl ?_
      refine x_iload_n hO dX4_search_65 rfl rfl ?_
      refine x_iconst (v := nI 0) hO dX4_search_66 rfl ?_
      refine x_callV1 hO (m_at_r U M3 q) dX4_search_67 lkX4_55 fX4_at vX4_at (by decide) rfl rfl rfl rfl rfl (by decide) (Nat.le_of_ble_eq_true rfl) ?_
      refine x_iconst (v := nI 1) hO dX4_search_70 rfl ?_
      refine x_isub hO dX4_search_71 ?_
      rw [e0]
      refine x_iconst (v := nI 0) hO dX4_search_72 rfl ?_
      refine x_callV1 hO (m_slotWith U M3 (a := a0) (by rw [n3.1]; exact wA) (s.1.1 f 0) (nI 0)) dX4_search_73 lkX4_109 fX4_slotWith vX4_slotWith (by decide) rfl rfl rfl rfl rfl (by decide) (Nat.le_of_ble_eq_true rfl) ?_
      rw [n3.1]
      obtain ⟨⟨r, hr, hr2⟩, -, t, t1, t2, t3⟩ := wA.2.2.2.1 f ho
      have hfi : nF (pPart s.1.1 (s.1.1 f 0) (nI 0)) 0 32 < 32 := by
        rcases Nat.lt_or_ge (nF (pPart s.1.1 (s.1.1 f 0) (nI 0)) 0 32) 32 with y | y
        · exact y
        · have := nF_no (P := pPart s.1.1 (s.1.1 f 0) (nI 0)) 32 0 t (Nat.zero_le _) (by have := wA.lt t1; omega)
          simp only [pPart, t1, t2, t3] at this
          exact absurd this (by simp; rfl)
      obtain ⟨p1, p2, p3⟩ := pPart_oc hfi
      generalize nF (pPart s.1.1 (s.1.1 f 0) (nI 0)) 0 32 = y at *
      refine x_imul hO dX4_search_76 ?_
      rw [pk_mul]
      refine x_bipush (v := nI 6) hO dX4_search_77 rfl ?_
      refine x_iadd hO dX4_search_79 ?_
      rw [nI_add]
      have ly : 7 * y + 6 < 229 := by omega
      have oy : aoc (nA M3) y = true := by rw [n3.1]; exact p1
      have e6 : M3 10 (7 * y + 6) = s.1.1 y 6 := by
        have := mA_hit (M := M3) (c := 10) (o := 0) oy (by show nA M3 y 1 = 0; rw [n3.1]; exact p3)
        rw [Nat.zero_add] at this
        exact this.trans (by show nA M3 y 6 = _; rw [n3.1])
      refine x_dup2 hO dX4_search_80 ?_
      refine x_iald hO (by decide) rfl (by decide) (rfl) (ly) dX4_search_81 ?_
      rw [e6]
      refine x_iconst (v := nI 1) hO dX4_search_82 rfl ?_
      refine x_iadd hO dX4_search_83 ?_
      refine x_iast hO (by decide) rfl (by decide) (rfl) (ly) dX4_search_84 ?_
      have hne : s.1.1 f 0 ≠ -1 := by rw [hr2]; exact nI_m1 (by omega)
      have n4 : mSm M1 (xset M3 10 (7 * y + 6) (s.1.1 y 6 + nI 1)) (aHt s.1.1 (s.1.1 f 0)) (upd (upd s.1.2 3 (s.1.2 3 + nI 1)) 4 (s.1.2 4 + nI (aPw s.1.1 x 4))) := by
        refine ⟨mA_ext (fun i hi => ?_) (fun i hi => ?_), fun j hj => ?_, fun k hk => ?_⟩
        · funext v
          have keep : ∀ v, v < 6 → xset M3 10 (7 * y + 6) (s.1.1 y 6 + nI 1) 10 (0 + 7 * i + v) = M3 10 (0 + 7 * i + v) := fun v hv => by
            rw [xset_at, if_pos rfl, if_neg (by omega)]
          have e3 : mA M3 10 0 i v = s.1.1 i v := by show nA M3 i v = _; rw [n3.1]
          have o3 : moc M3 10 0 i = aoc s.1.1 i := by rw [← mA_oc, ← n3.1]; rfl
          have om : moc (xset M3 10 (7 * y + 6) (s.1.1 y 6 + nI 1)) 10 0 i = aoc s.1.1 i := by
            refine Eq.trans ?_ o3
            unfold moc
            have := keep 0 (by decide)
            simp only [Nat.add_zero] at this
            rw [this]
          unfold mA at e3 ⊢
          unfold aHt
          rw [om]
          rw [o3] at e3
          cases ho2 : aoc s.1.1 i with
          | false =>
            rw [ho2] at e3
            have z : s.1.1 i 0 = -1 := by
              have := ho2
              unfold aoc at this
              simpa using this
            simp only [Bool.false_eq_true, if_false] at e3 ⊢
            rw [if_neg (fun q => hne (by rw [← q.2.1]; exact z))]
            exact e3
          | true =>
            rw [ho2] at e3
            simp only [if_true] at e3 ⊢
            have k0 := keep 0 (by decide)
            have k1 := keep 1 (by decide)
            simp only [Nat.add_zero] at k0
            by_cases v0 : v = 0
            · subst v0
              rw [if_pos rfl, k0, if_neg (fun q => absurd q.1 (by decide)), ← e3, if_pos rfl]
            · rw [if_neg v0] at e3 ⊢
              by_cases v6 : v < 6
              · rw [if_pos v6] at e3 ⊢
                rw [keep v v6, if_neg (fun q => by omega), ← e3]
              · rw [if_neg v6] at e3 ⊢
                rw [k1]
                have i1 : M3 10 (0 + 7 * i + 1) = s.1.1 i 1 := by
                  have := mA_in (M := M3) (c := 10) (o := 0) (s := i) (w := 1) (by show aoc (nA M3) i = true; rw [n3.1]; exact ho2) (by decide) (by decide)
                  exact this.trans (by show nA M3 i 1 = _; rw [n3.1])
                rw [i1] at e3 ⊢
                by_cases c6 : v = 6 ∧ s.1.1 i 1 = 0
                · rw [if_pos c6] at e3 ⊢
                  by_cases er : s.1.1 i 0 = s.1.1 f 0
                  · have ei : i = y := wA.2.2.2.2 i y ho2 p1 (by rw [er, p2]) (by rw [c6.2]; exact p3.symm)
                    subst ei
                    rw [if_pos ⟨c6.1, er, c6.2⟩, xset_at, if_pos rfl, if_pos (by omega)]
                  · have ei : i ≠ y := fun z => er (by rw [z]; exact p2)
                    rw [if_neg (fun q => er q.2.1), xset_at, if_pos rfl, if_neg (by omega), e3]
                · rw [if_neg c6] at e3 ⊢
                  rw [if_neg (fun q => c6 ⟨q.1, q.2.2⟩), e3]
        · have := wA.2.1 i hi
          funext v
          unfold aHt
          rw [this]
          rw [if_neg (fun q => hne (by rw [← q.2.1]; rfl))]
        · rw [xset_at, if_pos rfl, if_neg (by omega)]
          exact n3.2.1 j hj
        · rw [xset_ne _ _ _ hk]
          exact n3.2.2 k hk
      obtain ⟨r4, f4⟩ := r1.mSm n4 (upd_z (upd_z h.z (by decide) _) (by decide) _)
      generalize xset M3 10 (7 * y + 6) (s.1.1 y 6 + nI 1) = M4 at *
      refine x_aload_n hO dX4_search_85 rfl rfl ?_
      refine x_iload_n hO dX4_search_86 rfl rfl ?_
      refine x_iconst (v := nI 5) hO dX4_search_87 rfl ?_
      have ho4 : aoc (nA M4) f = true := by
        rw [n4.1]
        unfold aoc aHt
        rw [if_neg (fun z => absurd z.1 (by decide))]
        exact ho
      refine x_callV1 hO (m_at U M4 ho4 (w := 5) (by decide) (by decide)) dX4_search_88 lkX4_55 fX4_at vX4_at (by decide) rfl rfl rfl rfl rfl (by decide) (Nat.le_of_ble_eq_true rfl) ?_
      refine x_iret hO hR dX4_search_91 rfl ?_
      refine ⟨?_, r4, f1.tr f4⟩
      rw [n4.1]
      unfold aHt
      rw [if_neg (fun z => absurd z.1 (by decide))]
    · have q : ¬ aFd s.1.1 x < 32 := by have := (nI_eq (by omega) (by decide)).mp c2; omega
      rw [if_neg q] at hR
      refine x_bipush (v := (-4 : Int32)) hO dX4_search_22 rfl ?_
      refine x_iret hO hR dX4_search_24 rfl ?_
      exact ⟨rfl, h, frM.rf M⟩
  · rw [if_neg (by rw [bI_0 c]; decide)] at hR
    refine x_bipush (v := (-2 : Int32)) hO dX4_search_7 rfl ?_
    refine x_iret hO hR dX4_search_9 rfl ?_
    exact ⟨rfl, h, frM.rf M⟩
/-! ===== the text's signs ===== -/
theorem km_type (U : xP) (M : xM) {s : aO} (h : RM M s) (x : Int32) : xMetI U mX4_type [.inr 9, .inl x] M (poM M (o_type s x)) := by
  refine xMetI.of (ty := .int) (L := [some (.inr 9), some (.inl x)]) fX4_type rfl rfl (Nat.le_of_ble_eq_true rfl) (fun G hN hO hR => ?_)
  have hN : G.2.2.2.2.2.2.2.2.2.2.1 = 2 := hN
  have hO : xOK U G RX4 cX4_type 0 := hO
  unfold o_type at hR
  obtain ⟨⟨A, g⟩, sn, hi, tt⟩ := s
  obtain ⟨h1, h2, ⟨c0, h4, h6, h7⟩, n, h8, h9, h10⟩ := id h
  simp only at h1 h2 h7 h10 hR
  subst h10
  refine x_aload_n hO dX4_type_0 rfl rfl ?_
  refine x_getI (T := TX4) (j := 7) hO dX4_type_1 flX4_143 (by decide) rfl rfl (by decide) rfl rfl ?_
  rw [h9]
  refine x_bipush (v := nI 60) hO dX4_type_4 rfl ?_
  refine x_icmp_ne (tgt := 12) hO dX4_type_6 (by decide) (fun c => ?_) (fun c => ?_)
  · have q : n < 60 := by
      rcases Nat.lt_or_ge n 60 with z | z
      · exact z
      · exact absurd (by rw [show n = 60 by omega]) c
    rw [if_pos q] at hR
    refine x_aload_n hO dX4_type_12 rfl rfl ?_
    refine x_getR (T := TX4) (j := 6) hO dX4_type_13 flX4_22 (by decide) rfl rfl (by decide) rfl rfl ?_
    refine x_aload_n hO dX4_type_16 rfl rfl ?_
    refine x_getI (T := TX4) (j := 7) hO dX4_type_17 flX4_143 (by decide) rfl rfl (by decide) rfl rfl ?_
    rw [h9]
    refine x_iload_n hO dX4_type_20 rfl rfl ?_
    refine x_iast hO (by decide) rfl (by decide) (rfl) (q) dX4_type_21 ?_
    refine x_aload_n hO dX4_type_22 rfl rfl ?_
    refine x_dup hO dX4_type_23 ?_
    refine x_getI (T := TX4) (j := 7) hO dX4_type_24 flX4_143 (by decide) rfl rfl (by decide) rfl rfl ?_
    rw [show xset M 14 n x 9 7 = nI n by rw [xset_ne _ _ _ (by decide)]; exact h9]
    refine x_iconst (v := nI 1) hO dX4_type_27 rfl ?_
    refine x_iadd hO dX4_type_28 ?_
    rw [nI_1c]
    refine x_put (T := TX4) (j := 7) (ty := .int) hO dX4_type_29 flX4_143 (by decide) rfl rfl (by decide) rfl rfl rfl (by decide +kernel) rfl rfl ?_
    refine x_aload_n hO dX4_type_32 rfl rfl ?_
    refine x_getI (T := TX4) (j := 7) hO dX4_type_33 flX4_143 (by decide) rfl rfl (by decide) rfl rfl ?_
    have e : ∀ k, k ≠ 9 → k ≠ 14 → xset (xset M 14 n x) 9 7 (nI (n + 1)) k = M k := fun k a b => by rw [xset_ne _ _ _ a, xset_ne _ _ _ b]
    have e9 : ∀ j, j ≠ 7 → xset (xset M 14 n x) 9 7 (nI (n + 1)) 9 j = M 9 j := fun j hj => by rw [xset_at, if_pos rfl, if_neg hj, xset_ne _ _ _ (by decide)]
    have e97 : xset (xset M 14 n x) 9 7 (nI (n + 1)) 9 7 = nI (n + 1) := by rw [xset_at, if_pos rfl, if_pos rfl]
    have e14 : xset (xset M 14 n x) 9 7 (nI (n + 1)) 14 = upd (M 14) n x := by rw [xset_ne _ _ _ (by decide), xset_same]
    rw [e97]
    generalize xset (xset M 14 n x) 9 7 (nI (n + 1)) = M2 at *
    refine x_iret hO hR dX4_type_36 rfl ?_
    have s10 : (nA M2, nG M2) = (nA M, nG M) := smC_eq (M := M) (M' := M2) (c := 10) (c' := 10) (o := 0) (o' := 0) (fun t _ => by rw [e 10 (by decide) (by decide)])
    have s13 : smC M2 13 0 = smC M 13 0 := smC_eq (fun t _ => by rw [e 13 (by decide) (by decide)])
    have s12 : ∀ o, smC M2 12 o = smC M 12 o := fun o => smC_eq (fun t _ => by rw [e 12 (by decide) (by decide)])
    refine ⟨rfl, ⟨s10.trans h1, ?_, ⟨c0, h4, (e9 3 (by decide)).trans h6, ?_⟩, n + 1, by omega, e97, ?_⟩, fun k hk => e k (by omega) (by omega)⟩
    · rw [e9 5 (by decide), s13]
      exact h2
    · simp only [s12]
      exact h7
    · show (n + 1, upd (sg (M 14) n) n x) = _
      rw [e14]
      congr 1
      funext p
      unfold sg
      rw [upd_at]
      by_cases z : p = n
      · subst z
        rw [if_pos rfl, if_pos (by omega), upd_at, if_pos rfl]
      · rw [if_neg z, upd_at, if_neg z]
        have : p < n + 1 ↔ p < n := by omega
        simp only [this]
  · have q : ¬ n < 60 := by have := (nI_eq (by omega) (by decide)).mp c; omega
    rw [if_neg q] at hR
    refine x_bipush (v := (-3 : Int32)) hO dX4_type_9 rfl ?_
    refine x_iret hO hR dX4_type_11 rfl ?_
    exact ⟨rfl, h, frM.rf M⟩
theorem km_clearText (U : xP) (M : xM) {s : aO} (h : RM M s) : xMetI U mX4_clearText [.inr 9] M (poM M (o_clearText s)) := by
  refine xMetI.of (ty := .int) (L := [some (.inr 9), none]) fX4_clearText rfl rfl (Nat.le_of_ble_eq_true rfl) (fun G hN hO hR => ?_)
  have hN : G.2.2.2.2.2.2.2.2.2.2.1 = 2 := hN
  have hO : xOK U G RX4 cX4_clearText 0 := hO
  unfold o_clearText at hR
  obtain ⟨⟨A, g⟩, sn, hi, tt⟩ := s
  obtain ⟨h1, h2, ⟨c0, h4, h6, h7⟩, n, h8, h9, h10⟩ := id h
  simp only at h1 h2 h7 h10 hR
  subst h10
  refine x_aload_n hO dX4_clearText_0 rfl rfl ?_
  refine x_getI (T := TX4) (j := 7) hO dX4_clearText_1 flX4_143 (by decide) rfl rfl (by decide) rfl rfl ?_
  rw [h9]
  refine x_istore_n (n := 2) hO dX4_clearText_4 rfl rfl (by decide) hN ?_
  refine x_aload_n hO dX4_clearText_5 rfl rfl ?_
  refine x_iconst (v := nI 0) hO dX4_clearText_6 rfl ?_
  refine x_put (T := TX4) (j := 7) (ty := .int) hO dX4_clearText_7 flX4_143 (by decide) rfl rfl (by decide) rfl rfl rfl (by decide +kernel) rfl rfl ?_
  refine x_iload_n hO dX4_clearText_10 rfl rfl ?_
  have e : ∀ k, k ≠ 9 → xset M 9 7 (nI 0) k = M k := fun k a => by rw [xset_ne _ _ _ a]
  have e9 : ∀ j, j ≠ 7 → xset M 9 7 (nI 0) 9 j = M 9 j := fun j hj => by rw [xset_at, if_pos rfl, if_neg hj]
  have e97 : xset M 9 7 (nI 0) 9 7 = nI 0 := by rw [xset_at, if_pos rfl, if_pos rfl]
  generalize xset M 9 7 (nI 0) = M2 at *
  refine x_iret hO hR dX4_clearText_11 rfl ?_
  have s10 : (nA M2, nG M2) = (nA M, nG M) := smC_eq (M := M) (M' := M2) (c := 10) (c' := 10) (o := 0) (o' := 0) (fun t _ => by rw [e 10 (by decide)])
  have s13 : smC M2 13 0 = smC M 13 0 := smC_eq (fun t _ => by rw [e 13 (by decide)])
  have s12 : ∀ o, smC M2 12 o = smC M 12 o := fun o => smC_eq (fun t _ => by rw [e 12 (by decide)])
  refine ⟨rfl, ⟨s10.trans h1, ?_, ⟨c0, h4, (e9 3 (by decide)).trans h6, ?_⟩, 0, by omega, e97, ?_⟩, fun k hk => e k (by omega)⟩
  · rw [e9 5 (by decide), s13]
    exact h2
  · simp only [s12]
    exact h7
  · show (0, fun _ => (-1 : Int32)) = _
    congr 1
