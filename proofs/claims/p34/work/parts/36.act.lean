/-! ===== the law's act ===== -/
theorem o_remove_0 {s : aO} {x : Int32} (h : nC (pRule s.1.1 x) 32 = 0) : o_remove s x = (-1, s) := if_pos h
theorem o_remove_1 {s : aO} {x : Int32} (h : ¬ nC (pRule s.1.1 x) 32 = 0) : o_remove s x = (nI (nC (pRule s.1.1 x) 32), oCur (oRec s) (aDrop s.1.1 x, s.1.2)) := if_neg h
theorem q_parts_0 {A : aR} {x : Int32} (h : nC (pRule A x) 32 = 0) : q_parts A x = -1 := if_pos h
theorem q_parts_1 {A : aR} {x : Int32} (h : ¬ nC (pRule A x) 32 = 0) : q_parts A x = nI (nC (pRule A x) 32) := if_neg h
theorem drop_none {A : aR} {x : Int32} (hx : x ≠ -1) : nC (pRule (aDrop A x) x) 32 = 0 := nC_0.mpr (fun i _ => by
  cases e : pRule (aDrop A x) x i with
  | false => rfl
  | true =>
    exfalso
    obtain ⟨h1, h2⟩ := pRule_iff.mp e
    by_cases q : A i 0 = x
    · have e : aDrop A x i = eR := by unfold aDrop; rw [if_pos q]
      rw [aoc_eR e] at h1
      cases h1
    · have e : aDrop A x i = A i := by unfold aDrop; rw [if_neg q]
      rw [e] at h2
      exact q h2)
theorem o_place_at (s : aO) {p : Nat} (hp : p < 3) : o_setPlacing s (nI p) = if nI p = s.1.2 0 then (-4, s) else (s.1.2 0, oCur (oRec s) (s.1.1, upd s.1.2 0 (nI p))) := by
  unfold o_setPlacing
  rw [ixB_n hp (by decide)]
  rfl
theorem l_act (U : xP) (M : xM) {s : aO} (h : RC M s) {B : Nat} (g : Wg s.1 B) (hB : B < 1000000) {x : Nat} (hx : x < 2 ^ 31) : xMetI U mL_act [.inr 0, .inl (nI x)] M (acP s B) := by
  obtain ⟨a0, l0, e0, w⟩ := id g.1
  refine xMetI.of (ty := .int) (L := [some (.inr 0), some (.inl (nI x)), none, none, none, none, none]) fL_act rfl rfl (Nat.le_of_ble_eq_true rfl) (fun G hN hO hR => ?_)
  have hN : G.2.2.2.2.2.2.2.2.2.2.1 = 7 := hN
  have hO : xOK U G RL cL_act 8 := hO
  refine x_iload_n hO dL_act_0 rfl rfl ?_
  refine x_bipush (v := nI 16) hO dL_act_1 rfl ?_
  refine x_idivN hO hx (by decide) (by decide) dL_act_3 ?_
  refine x_istore_n (n := 7) hO dL_act_4 rfl rfl (by decide) hN ?_
  refine x_iload_n hO dL_act_5 rfl rfl ?_
  refine x_bipush (v := nI 16) hO dL_act_6 rfl ?_
  refine x_iremN hO hx (by decide) (by decide) dL_act_8 ?_
  have hy : x / 16 < 2 ^ 31 := by omega
  generalize x / 16 = y at *
  generalize x % 16 = c0 at *
  refine x_istore_n (n := 7) hO dL_act_9 rfl rfl (by decide) hN ?_
  refine x_iload_n hO dL_act_10 rfl rfl ?_
  refine x_iconst (v := nI 5) hO dL_act_11 rfl ?_
  refine x_icmp_ge (tgt := 21) hO dL_act_12 (by decide) (fun c1 => ?_) (fun c1 => ?_)
  · refine x_iload_n hO dL_act_21 rfl rfl ?_
    refine x_bipush (v := nI 8) hO dL_act_22 rfl ?_
    refine x_icmp_ge (tgt := 33) hO dL_act_24 (by decide) (fun c2 => ?_) (fun c2 => ?_)
    · refine x_iload_n hO dL_act_33 rfl rfl ?_
      refine x_bipush (v := nI 10) hO dL_act_34 rfl ?_
      refine x_icmp_ge (tgt := 91) hO dL_act_36 (by decide) (fun c3 => ?_) (fun c3 => ?_)
      · refine x_iload_n hO dL_act_91 rfl rfl ?_
        refine x_bipush (v := nI 10) hO dL_act_92 rfl ?_
        refine x_icmp_ne (tgt := 105) hO dL_act_94 (by decide) (fun c4 => ?_) (fun c4 => ?_)
        · refine x_iload_n hO dL_act_105 rfl rfl ?_
          refine x_bipush (v := nI 13) hO dL_act_106 rfl ?_
          refine x_icmp_ge (tgt := 129) hO dL_act_108 (by decide) (fun c5 => ?_) (fun c5 => ?_)
          · refine x_aload_n hO dL_act_129 rfl rfl ?_
            refine x_iload_n hO dL_act_130 rfl rfl ?_
            refine x_sipush (v := nI 255) hO dL_act_131 rfl ?_
            refine x_iand8 hO dL_act_134 (fun v hv => ?_)
            refine x_callS hO (l_searches U M h g hB hv) dL_act_135 lkL_116 fL_searches sL_searches rfl rfl (by decide) (Nat.le_of_ble_eq_true rfl) (fun r M1 p1 => ?_)
            refine x_iret hO hR dL_act_138 rfl ?_
            exact p1
          · refine x_aload_n hO dL_act_111 rfl rfl ?_
            refine x_iload_n hO dL_act_112 rfl rfl ?_
            refine x_bipush (v := nI 12) hO dL_act_113 rfl ?_
            have j123 : ∀ b, b = 0 ∨ b = 1 → XW U G 123 [some (.inr 0), some (.inl (nI x)), some (.inl (nI y)), some (.inl (nI c0)), none, none, none] [.inl (nI b), .inr 0] M := by
              intro b hb
              refine x_callS hO (l_rearranges U M h g hB (b := b) (n := if b = 1 then aCnt s.1.1 else 32) (by rcases hb with rfl | rfl <;> simp)) dL_act_123 lkL_112 fL_rearranges sL_rearranges rfl rfl (by decide) (Nat.le_of_ble_eq_true rfl) (fun r M1 p1 => ?_)
              refine x_goto (tgt := 138) hO dL_act_126 (by decide) ?_
              refine x_iret hO hR dL_act_138 rfl ?_
              exact p1
            refine x_icmp_ne (tgt := 122) hO dL_act_115 (by decide) (fun c6 => ?_) (fun c6 => ?_)
            · refine x_iconst (v := nI 0) hO dL_act_122 rfl ?_
              exact j123 0 (Or.inl rfl)
            · refine x_iconst (v := nI 1) hO dL_act_118 rfl ?_
              refine x_goto (tgt := 123) hO dL_act_119 (by decide) ?_
              exact j123 1 (Or.inr rfl)
        · refine x_aload_n hO dL_act_97 rfl rfl ?_
          refine x_iload_n hO dL_act_98 rfl rfl ?_
          refine x_iconst (v := nI 3) hO dL_act_99 rfl ?_
          refine x_iremN hO hy (by decide) (by decide) dL_act_100 ?_
          obtain ⟨p, hp, ep⟩ : ∃ p, p < 3 ∧ y % 3 = p := ⟨_, by omega, rfl⟩
          rw [ep]
          obtain ⟨p0, hp0, ep0⟩ := g.2.2
          refine x_callV hO (kc_setPlacing U M h (nI p)) dL_act_101 lkL_66 fX3_setPlacing vX3_setPlacing (by decide) rfl rfl rfl rfl rfl (by decide) (Nat.le_of_ble_eq_true rfl) (fun r M1 p1 => ?_)
          obtain ⟨rfl, h1, -⟩ := p1
          rw [o_place_at s hp] at h1 ⊢
          by_cases q : nI p = s.1.2 0
          · rw [if_pos q] at h1 ⊢
            refine x_iret hO hR dL_act_104 rfl ?_
            exact Or.inl ⟨h1, (by decide : (-4 : Int32) < 0), (by decide : ¬ (-4 : Int32) ≤ -9)⟩
          · rw [if_neg q] at h1 ⊢
            refine x_iret hO hR dL_act_104 rfl ?_
            exact Or.inr ⟨by rw [ep0]; exact nI_pos (by omega), _, h1, (wg_place g hp).up (Nat.le_succ B)⟩
      · refine x_iload_n hO dL_act_39 rfl rfl ?_
        refine x_aload_n hO dL_act_40 rfl rfl ?_
        refine x_iconst (v := nI 2) hO dL_act_41 rfl ?_
        refine x_callV1 hO (kc_total U M h (nI 2)) dL_act_42 lkL_13 fX3_total vX3_total (by decide) rfl rfl rfl rfl rfl (by decide) (Nat.le_of_ble_eq_true rfl) ?_
        rw [q_total_2, e0]
        refine x_iconst (v := nI 1) hO dL_act_45 rfl ?_
        refine x_iadd hO dL_act_46 ?_
        rw [nI_add]
        refine x_iremN hO hy (by omega) (by omega) dL_act_47 ?_
        obtain ⟨r, hr, er⟩ : ∃ r, r < 2 ^ 30 ∧ y % (a0 + 1) = r := ⟨_, by have := Nat.mod_lt y (show 0 < a0 + 1 by omega); omega, rfl⟩
        rw [er]
        refine x_istore (n := 7) hO dL_act_48 rfl (by decide) hN ?_
        refine x_aload_n hO dL_act_50 rfl rfl ?_
        refine x_iload hO dL_act_51 rfl ?_
        refine x_callV1 hO (kc_parts U M h (nI r)) dL_act_53 lkL_38 fX3_parts vX3_parts (by decide) rfl rfl rfl rfl rfl (by decide) (Nat.le_of_ble_eq_true rfl) ?_
        refine x_istore (n := 7) hO dL_act_56 rfl (by decide) hN ?_
        refine x_aload_n hO dL_act_58 rfl rfl ?_
        refine x_iload hO dL_act_59 rfl ?_
        refine x_callV hO (kc_remove U M h (nI r)) dL_act_61 lkL_63 fX3_remove vX3_remove (by decide) rfl rfl rfl rfl rfl (by decide) (Nat.le_of_ble_eq_true rfl) (fun r M1 p1 => ?_)
        obtain ⟨rfl, h1, -⟩ := p1
        by_cases q : nC (pRule s.1.1 (nI r)) 32 = 0
        · rw [o_remove_0 q] at h1 ⊢
          rw [q_parts_0 q]
          refine x_istore (n := 7) hO dL_act_64 rfl (by decide) hN ?_
          refine x_iload hO dL_act_66 rfl ?_
          refine x_iload hO dL_act_68 rfl ?_
          refine x_icmp_ne (tgt := 88) hO dL_act_70 (by decide) (fun c => absurd rfl c) (fun _ => ?_)
          refine x_aload_n hO dL_act_73 rfl rfl ?_
          refine x_iload hO dL_act_74 rfl ?_
          refine x_callV1 hO (kc_parts U M1 h1 (nI r)) dL_act_76 lkL_38 fX3_parts vX3_parts (by decide) rfl rfl rfl rfl rfl (by decide) (Nat.le_of_ble_eq_true rfl) ?_
          rw [q_parts_0 q]
          refine x_iconst (v := (-1 : Int32)) hO dL_act_79 rfl ?_
          refine x_icmp_ne (tgt := 88) hO dL_act_80 (by decide) (fun c => absurd rfl c) (fun _ => ?_)
          refine x_iload hO dL_act_83 rfl ?_
          refine x_goto (tgt := 90) hO dL_act_85 (by decide) ?_
          refine x_iret hO hR dL_act_90 rfl ?_
          exact Or.inl ⟨h1, (by decide : (-1 : Int32) < 0), (by decide : ¬ (-1 : Int32) ≤ -9)⟩
        · have hl := nC_le (pRule s.1.1 (nI r)) 32
          obtain ⟨hv, hs⟩ : (o_remove s (nI r)).1 = nI (nC (pRule s.1.1 (nI r)) 32) ∧ (o_remove s (nI r)).2 = oCur (oRec s) (aDrop s.1.1 (nI r), s.1.2) := by
            rw [o_remove_1 q]
            exact ⟨rfl, rfl⟩
          have tq : q_parts (oCur (oRec s) (aDrop s.1.1 (nI r), s.1.2)).1.1 (nI r) = -1 := q_parts_0 (drop_none (A := s.1.1) (x := nI r) (nI_m1 (by omega)))
          rw [hs] at h1
          rw [hv]
          rw [q_parts_1 q]
          refine x_istore (n := 7) hO dL_act_64 rfl (by decide) hN ?_
          refine x_iload hO dL_act_66 rfl ?_
          refine x_iload hO dL_act_68 rfl ?_
          refine x_icmp_ne (tgt := 88) hO dL_act_70 (by decide) (fun c => absurd rfl c) (fun _ => ?_)
          refine x_aload_n hO dL_act_73 rfl rfl ?_
          refine x_iload hO dL_act_74 rfl ?_
          refine x_callV1 hO (kc_parts U M1 h1 (nI r)) dL_act_76 lkL_38 fX3_parts vX3_parts (by decide) rfl rfl rfl rfl rfl (by decide) (Nat.le_of_ble_eq_true rfl) ?_
          rw [tq]
          refine x_iconst (v := (-1 : Int32)) hO dL_act_79 rfl ?_
          refine x_icmp_ne (tgt := 88) hO dL_act_80 (by decide) (fun c => absurd rfl c) (fun _ => ?_)
          refine x_iload hO dL_act_83 rfl ?_
          refine x_goto (tgt := 90) hO dL_act_85 (by decide) ?_
          refine x_iret hO hR dL_act_90 rfl ?_
          exact Or.inr ⟨nI_pos (by omega), _, h1, (wg_drop g (nI r)).up (Nat.le_succ B)⟩
    · refine x_aload_n hO dL_act_27 rfl rfl ?_
      refine x_iload_n hO dL_act_28 rfl rfl ?_
      refine x_callS hO (l_addsRange U M h g hB hy) dL_act_29 lkL_109 fL_addsRange sL_addsRange rfl rfl (by decide) (Nat.le_of_ble_eq_true rfl) (fun r M1 p1 => ?_)
      refine x_iret hO hR dL_act_32 rfl ?_
      exact p1
  · refine x_aload_n hO dL_act_15 rfl rfl ?_
    refine x_iload_n hO dL_act_16 rfl rfl ?_
    refine x_callS hO (l_adds U M h g hB hy) dL_act_17 lkL_105 fL_adds sL_adds rfl rfl (by decide) (Nat.le_of_ble_eq_true rfl) (fun r M1 p1 => ?_)
    refine x_iret hO hR dL_act_20 rfl ?_
    exact p1
