/-! ===== addText ===== -/
theorem txtS_z {x : aSt} (h : ∀ j, 5 ≤ j → x.2 j = 0) (T : tT) (n : Nat) : ∀ i j, 5 ≤ j → (txtS x T n i).2 j = 0
  | 0, j, hj => h j hj
  | i + 1, j, hj => by
    simp only [txtS, addS]
    rw [upd_at, if_neg (by omega), upd_at, if_neg (by omega)]
    exact txtS_z h T n i j hj
theorem km_addText (U : xP) (M : xM) {s : aO} (h : RM M s) {B : Nat} (w : WfO s B) (hB : B < 900000) : xMetI U mX4_addText [.inr 9] M (poM M (o_addText s)) := by
  refine xMetI.of (ty := .int) (L := [some (.inr 9), none]) fX4_addText rfl rfl (Nat.le_of_ble_eq_true rfl) (fun G hN hO hR => ?_)
  have hN : G.2.2.2.2.2.2.2.2.2.2.1 = 2 := hN
  have hO : xOK U G RX4 cX4_addText 5 := hO
  unfold o_addText at hR
  obtain ⟨n, hn, h9, e1⟩ := h.2.2.2
  have et1 : s.2.2.2.1 = n := by rw [e1]
  have et2 : s.2.2.2.2 = sg (M 14) n := by rw [e1]
  rw [et1, et2, tx_sg] at hR
  have hle := aCnt_le s.1.1
  have hok := tx_ok (T := M 14) (n := n) 5 0
  rw [show tB (M 14) n 0 = 0 from rfl] at hok
  have hle2 : (tx (M 14) n 5 0 0).2.1 < 2 ^ 31 := by
    have := tx_le (T := M 14) (n := n) 5 0 0 (Nat.zero_le _)
    omega
  refine x_aload_n hO dX4_addText_0 rfl rfl ?_
  refine x_callV hO (m_readText U M h9 hn) dX4_addText_1 lkX4_165 fX4_readText vX4_readText (by decide) rfl rfl rfl rfl rfl (by decide) (Nat.le_of_ble_eq_true rfl) (fun r M1 m1 => ?_)
  obtain ⟨rfl, rd, dat⟩ := m1
  obtain ⟨r1, f1⟩ := h.rd rd
  generalize hT : M 14 = T at *
  generalize hg : tx T n 5 0 0 = g at *
  by_cases q : g.1 = true
  · rw [q] at hR ⊢
    rw [if_pos rfl] at hR
    obtain ⟨g9, dat⟩ := dat q
    obtain ⟨-, l5, ok⟩ := hok q
    generalize g.2.2 = m at *
    refine x_if_ne (tgt := 15) hO dX4_addText_4 (by decide) (fun c => ?_) (fun c => ?_)
    · refine x_aload_n hO dX4_addText_15 rfl rfl ?_
      refine x_callV1 hO (m_freeSlots U M1) dX4_addText_16 lkX4_93 fX4_freeSlots vX4_freeSlots (by decide) rfl rfl rfl rfl rfl (by decide) (Nat.le_of_ble_eq_true rfl) ?_
      rw [r1.rows]
      refine x_aload_n hO dX4_addText_19 rfl rfl ?_
      refine x_getI (T := TX4) (j := 9) hO dX4_addText_20 flX4_158 (by decide) rfl rfl (by decide) rfl rfl ?_
      rw [g9]
      refine x_icmp_ge (tgt := 29) hO dX4_addText_23 (by decide) (fun c2 => ?_) (fun c2 => ?_)
      · have q2 : ¬ 32 - aCnt s.1.1 < m := by have := (nI_leI (by omega) (by omega)).mp c2; omega
        rw [if_neg q2] at hR
        refine x_aload_n hO dX4_addText_29 rfl rfl ?_
        refine x_callVv hO (m_record U M1 r1) dX4_addText_30 lkX4_48 fX4_record vX4_record (by decide) rfl rfl rfl rfl rfl (by decide) (Nat.le_of_ble_eq_true rfl) (fun M2 m2 => ?_)
        obtain ⟨r2, f2, e10⟩ := m2
        sorry
      · have q2 : 32 - aCnt s.1.1 < m := Nat.not_le.mp (fun z => c2 ((nI_leI (by omega) (by omega)).mpr z))
        rw [if_pos q2] at hR
        refine x_bipush (v := (-3 : Int32)) hO dX4_addText_26 rfl ?_
        refine x_iret hO hR dX4_addText_28 rfl ?_
        exact ⟨rfl, r1, f1⟩
    · exact absurd rfl c
  · have q : g.1 = false := by simpa using q
    rw [q] at hR ⊢
    simp only [Bool.false_eq_true, if_false] at hR
    refine x_if_ne (tgt := 15) hO dX4_addText_4 (by decide) (fun c => ?_) (fun c => ?_)
    · exact absurd rfl c
    · refine x_bipush (v := (-100 : Int32)) hO dX4_addText_7 rfl ?_
      refine x_aload_n hO dX4_addText_9 rfl rfl ?_
      refine x_getI (T := TX4) (j := 10) hO dX4_addText_10 flX4_146 (by decide) rfl rfl (by decide) rfl rfl ?_
      rw [rd.1]
      refine x_isub hO dX4_addText_13 ?_
      refine x_iret hO hR dX4_addText_14 rfl ?_
      exact ⟨rfl, r1, f1⟩
