/-! ===== addText ===== -/
theorem txtS_z {x : aSt} (h : ∀ j, 5 ≤ j → x.2 j = 0) (T : tT) (n : Nat) : ∀ i j, 5 ≤ j → (txtS x T n i).2 j = 0
  | 0, j, hj => h j hj
  | i + 1, j, hj => by
    simp only [txtS, addS]
    rw [upd_at, if_neg (by omega), upd_at, if_neg (by omega)]
    exact txtS_z h T n i j hj
theorem km_addText (U : xP) (M : xM) {s : aO} (h : RM M s) {B : Nat} (w : WfO s B) (hB : B < 900000) : xMetI U mX4_addText [.inr 9] M (poM M (o_addText s)) := by
  refine xMetI.of (ty := .int) (L := [some (.inr 9), none]) fX4_addText rfl rfl (Nat.le_of_ble_eq_true rfl) (fun G hN hO hR => ?_)
  have hN : G.2.2.2.2.2.2.2.2.2.2.1 = 2 := hN
  have hO : xOK U G RX4 cX4_addText 5 := hO
  unfold o_addText at hR
  obtain ⟨n, hn, h9, e1⟩ := h.2.2.2
  have et1 : s.2.2.2.1 = n := by rw [e1]
  have et2 : s.2.2.2.2 = sg (M 14) n := by rw [e1]
  rw [et1, et2, tx_sg] at hR
  have hle := aCnt_le s.1.1
  have hok := tx_ok (T := M 14) (n := n) 5 0
  rw [show tB (M 14) n 0 = 0 from rfl] at hok
  have hle2 : (tx (M 14) n 5 0 0).2.1 < 2 ^ 31 := by
    have := tx_le (T := M 14) (n := n) 5 0 0 (Nat.zero_le _)
    omega
  refine x_aload_n hO dX4_addText_0 rfl rfl ?_
  refine x_callV hO (m_readText U M h9 hn) dX4_addText_1 lkX4_165 fX4_readText vX4_readText (by decide) rfl rfl rfl rfl rfl (by decide) (Nat.le_of_ble_eq_true rfl) (fun r M1 m1 => ?_)
  obtain ⟨rfl, rd, dat⟩ := m1
  obtain ⟨r1, f1⟩ := h.rd rd
  generalize hT : M 14 = T at *
  generalize hg : tx T n 5 0 0 = g at *
  by_cases q : g.1 = true
  · rw [q] at hR ⊢
    rw [if_pos rfl] at hR
    obtain ⟨g9, dat⟩ := dat q
    obtain ⟨-, l5, ok⟩ := hok q
    generalize g.2.2 = m at *
    refine x_if_ne (tgt := 15) hO dX4_addText_4 (by decide) (fun c => ?_) (fun c => ?_)
    · refine x_aload_n hO dX4_addText_15 rfl rfl ?_
      refine x_callV1 hO (m_freeSlots U M1) dX4_addText_16 lkX4_93 fX4_freeSlots vX4_freeSlots (by decide) rfl rfl rfl rfl rfl (by decide) (Nat.le_of_ble_eq_true rfl) ?_
      rw [r1.rows]
      refine x_aload_n hO dX4_addText_19 rfl rfl ?_
      refine x_getI (T := TX4) (j := 9) hO dX4_addText_20 flX4_158 (by decide) rfl rfl (by decide) rfl rfl ?_
      rw [g9]
      refine x_icmp_ge (tgt := 29) hO dX4_addText_23 (by decide) (fun c2 => ?_) (fun c2 => ?_)
      · have q2 : ¬ 32 - aCnt s.1.1 < m := by have := (nI_leI (by omega) (by omega)).mp c2; omega
        rw [if_neg q2] at hR
        refine x_aload_n hO dX4_addText_29 rfl rfl ?_
        refine x_callVv hO (m_record U M1 r1) dX4_addText_30 lkX4_48 fX4_record vX4_record (by decide) rfl rfl rfl rfl rfl (by decide) (Nat.le_of_ble_eq_true rfl) (fun M2 m2 => ?_)
        obtain ⟨r2, f2, -, e15, e9⟩ := m2
        have dat2 : tDm T n m M2 := fun j hj => by rw [e15]; exact dat j hj
        have g92 : M2 9 9 = nI m := (e9 9 (by decide)).trans g9
        have hm : m ≤ 100 := by omega
        have wt : ∀ i, i ≤ m → Wf (txtS s.1 (sg T n) n i) (B + i) ∧ aCnt (txtS s.1 (sg T n) n i).1 = aCnt s.1.1 + i := fun i hi => wf_txt w.1 hB i (by omega) (by omega) (fun j _ => e_lt _ _)
        refine x_iconst (v := nI 0) hO dX4_addText_33 rfl ?_
        refine x_istore_n (n := 2) hO dX4_addText_34 rfl rfl (by decide) hN ?_
        refine upd_ind (P := fun i d => ∀ M3, RM M3 (oCur (oRec s) (txtS s.1 (sg T n) n i)) → frM M1 M3 → (∀ k, k ≠ 10 → M3 k = M2 k) → XW U G 35 [some (.inr 9), some (.inl (nI i))] [] M3) m ?_ ?_ m 0 (by omega) M2 r2 f2 (fun _ _ => rfl)
        · intro M3 r3 f3 e3
          refine x_iload_n hO dX4_addText_35 rfl rfl ?_
          refine x_aload_n hO dX4_addText_36 rfl rfl ?_
          refine x_getI (T := TX4) (j := 9) hO dX4_addText_37 flX4_158 (by decide) rfl rfl (by decide) rfl rfl ?_
          rw [e3 9 (by decide), g92]
          refine x_icmp_ge (tgt := 92) hO dX4_addText_40 (by decide) (fun c3 => ?_) (fun c3 => ?_)
          · refine x_aload_n hO dX4_addText_92 rfl rfl ?_
            refine x_getI (T := TX4) (j := 9) hO dX4_addText_93 flX4_158 (by decide) rfl rfl (by decide) rfl rfl ?_
            rw [e3 9 (by decide), g92]
            refine x_iret hO hR dX4_addText_96 rfl ?_
            exact ⟨rfl, r3, f1.tr f3⟩
          · exact absurd (Int32.le_refl _) c3
        · intro i d hd ih M3 r3 f3 e3
          have him : i < m := by omega
          obtain ⟨⟨a1, la, ea, wa⟩, ca⟩ := wt i (by omega)
          have ok1 := ok i (Nat.zero_le _) him
          obtain ⟨j1, j2⟩ := rOK_end ok1
          have k12 := rK_12 T n (tB T n i)
          obtain ⟨t5, t6, t7, t8⟩ := dat2 i him
          refine x_iload_n hO dX4_addText_35 rfl rfl ?_
          refine x_aload_n hO dX4_addText_36 rfl rfl ?_
          refine x_getI (T := TX4) (j := 9) hO dX4_addText_37 flX4_158 (by decide) rfl rfl (by decide) rfl rfl ?_
          rw [e3 9 (by decide), g92]
          refine x_icmp_ge (tgt := 92) hO dX4_addText_40 (by decide) (fun c3 => ?_) (fun c3 => ?_)
          · exact absurd c3 (nI_ge him (by omega))
          · have i0 : 4 * i < 24 := by omega
            have i1 : 4 * i + 1 < 24 := by omega
            have i2 : 4 * i + 2 < 24 := by omega
            have i3 : 4 * i + 3 < 24 := by omega
            refine x_aload_n hO dX4_addText_43 rfl rfl ?_
            refine x_aload_n hO dX4_addText_44 rfl rfl ?_
            refine x_getR (T := TX4) (j := 8) hO dX4_addText_45 flX4_25 (by decide) rfl rfl (by decide) rfl rfl ?_
            refine x_iconst (v := nI 4) hO dX4_addText_48 rfl ?_
            refine x_iload_n hO dX4_addText_49 rfl rfl ?_
            refine x_imul hO dX4_addText_50 ?_
            rw [pk_mul]
            refine x_iald hO (by decide) rfl (by decide) (rfl) (i0) dX4_addText_51 ?_
            rw [e3 15 (by decide), t5]
            refine x_aload_n hO dX4_addText_52 rfl rfl ?_
            refine x_getR (T := TX4) (j := 8) hO dX4_addText_53 flX4_25 (by decide) rfl rfl (by decide) rfl rfl ?_
            refine x_iconst (v := nI 4) hO dX4_addText_56 rfl ?_
            refine x_iload_n hO dX4_addText_57 rfl rfl ?_
            refine x_imul hO dX4_addText_58 ?_
            rw [pk_mul]
            refine x_iconst (v := nI 1) hO dX4_addText_59 rfl ?_
            refine x_iadd hO dX4_addText_60 ?_
            rw [nI_add]
            refine x_iald hO (by decide) rfl (by decide) (rfl) (i1) dX4_addText_61 ?_
            rw [e3 15 (by decide), t6]
            refine x_aload_n hO dX4_addText_62 rfl rfl ?_
            refine x_getR (T := TX4) (j := 8) hO dX4_addText_63 flX4_25 (by decide) rfl rfl (by decide) rfl rfl ?_
            refine x_iconst (v := nI 4) hO dX4_addText_66 rfl ?_
            refine x_iload_n hO dX4_addText_67 rfl rfl ?_
            refine x_imul hO dX4_addText_68 ?_
            rw [pk_mul]
            refine x_iconst (v := nI 2) hO dX4_addText_69 rfl ?_
            refine x_iadd hO dX4_addText_70 ?_
            rw [nI_add]
            refine x_iald hO (by decide) rfl (by decide) (rfl) (i2) dX4_addText_71 ?_
            rw [e3 15 (by decide), t7]
            refine x_aload_n hO dX4_addText_72 rfl rfl ?_
            refine x_getR (T := TX4) (j := 8) hO dX4_addText_73 flX4_25 (by decide) rfl rfl (by decide) rfl rfl ?_
            refine x_iconst (v := nI 4) hO dX4_addText_76 rfl ?_
            refine x_iload_n hO dX4_addText_77 rfl rfl ?_
            refine x_imul hO dX4_addText_78 ?_
            rw [pk_mul]
            refine x_iconst (v := nI 3) hO dX4_addText_79 rfl ?_
            refine x_iadd hO dX4_addText_80 ?_
            rw [nI_add]
            refine x_iald hO (by decide) rfl (by decide) (rfl) (i3) dX4_addText_81 ?_
            rw [e3 15 (by decide), t8]
            have hA : nA M3 = (txtS s.1 (sg T n) n i).1 := r3.rows
            have hG : nG M3 = (txtS s.1 (sg T n) n i).2 := r3.nums
            refine x_callV hO (m_add U M3 _ _ _ _ (by rw [hA]; omega) (by rw [hA]; exact wa.1) (by rw [hG, ea]; exact nI_m1 (by omega))) dX4_addText_82 lkX4_96 fX4_add vX4_add (by decide) rfl rfl rfl rfl rfl (by decide) (Nat.le_of_ble_eq_true rfl) (fun r M4 m4 => ?_)
            obtain ⟨-, m4⟩ := m4
            rw [hA, hG] at m4
            have hz := txtS_z (x := s.1) h.z (sg T n) n (i + 1)
            obtain ⟨r4, f4⟩ := r3.mSm m4 (fun j hj => by
              have := hz j hj
              simp only [txtS, addS] at this
              rw [upd_at, if_neg (by omega), upd_at, if_neg (by omega)] at this
              simp only [addS]
              rw [upd_at, if_neg (by omega), upd_at, if_neg (by omega)]
              exact this)
            refine x_pop hO dX4_addText_85 ?_
            refine x_iinc hO dX4_addText_86 rfl (by first | exact xinc_n _ | rfl) rfl hN ?_
            refine x_goto (tgt := 35) hO dX4_addText_89 (by decide) ?_
            refine ih M4 ?_ (f3.tr f4) (fun k k10 => by rw [m4.2.2 k k10, e3 k k10])
            show RM M4 (oCur (oRec s) (addS (txtS s.1 (sg T n) n i) (nI (eV (sg T n) (tB (sg T n) n i) 8)) (nI (eM (sg T n) (tB (sg T n) n i) 8)) (rRank (sg T n) n (tB (sg T n) n i)) (rAct (sg T n) n (tB (sg T n) n i))))
            rw [tB_sg, eV_sg T (by omega), eM_sg T (by omega), rRank_sg T ok1, rAct_sg T ok1]
            exact r4
      · have q2 : 32 - aCnt s.1.1 < m := Nat.not_le.mp (fun z => c2 ((nI_leI (by omega) (by omega)).mpr z))
        rw [if_pos q2] at hR
        refine x_bipush (v := (-3 : Int32)) hO dX4_addText_26 rfl ?_
        refine x_iret hO hR dX4_addText_28 rfl ?_
        exact ⟨rfl, r1, f1⟩
    · exact absurd c (by decide)
  · have q : g.1 = false := by simpa using q
    rw [q] at hR ⊢
    simp only [Bool.false_eq_true, if_false] at hR
    refine x_if_ne (tgt := 15) hO dX4_addText_4 (by decide) (fun c => ?_) (fun c => ?_)
    · exact absurd rfl c
    · refine x_bipush (v := (-100 : Int32)) hO dX4_addText_7 rfl ?_
      refine x_aload_n hO dX4_addText_9 rfl rfl ?_
      refine x_getI (T := TX4) (j := 10) hO dX4_addText_10 flX4_146 (by decide) rfl rfl (by decide) rfl rfl ?_
      rw [rd.1]
      refine x_isub hO dX4_addText_13 ?_
      refine x_iret hO hR dX4_addText_14 rfl ?_
      exact ⟨rfl, r1, f1⟩
