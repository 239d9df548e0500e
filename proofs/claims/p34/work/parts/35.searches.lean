/-! ===== the law's searches ===== -/
theorem o_search_at (s : aO) {j : Nat} (hj : j < 256) : o_search s (nI j) = if aFd s.1.1 (nI j) < 32 then (s.1.1 (aFd s.1.1 (nI j)) 5, oCur (oRec s) (aHt s.1.1 (s.1.1 (aFd s.1.1 (nI j)) 0), upd (upd s.1.2 3 (s.1.2 3 + nI 1)) 4 (s.1.2 4 + nI (aPw s.1.1 (nI j) 4)))) else (-4, s) := by
  unfold o_search
  rw [ixB_n hj (by decide)]
  rfl
theorem l_searches (U : xP) (M : xM) {s : aO} (h : RC M s) {B : Nat} (g : Wg s.1 B) (hB : B < 1000000) {j : Nat} (hj : j < 256) : xMetI U mL_searches [.inr 0, .inl (nI j)] M (acP s B) := by
  have w := g.rows
  refine xMetI.of (ty := .int) (L := [some (.inr 0), some (.inl (nI j)), none, none, none, none, none, none]) fL_searches rfl rfl (Nat.le_of_ble_eq_true rfl) (fun G hN hO hR => ?_)
  have hN : G.2.2.2.2.2.2.2.2.2.2.1 = 8 := hN
  have hO : xOK U G RL cL_searches 7 := hO
  refine x_aload_n hO dL_searches_0 rfl rfl ?_
  refine x_iload_n hO dL_searches_1 rfl rfl ?_
  refine x_callV1 hO (kc_find U M h (nI j)) dL_searches_2 lkL_50 fX3_find vX3_find (by decide) rfl rfl rfl rfl rfl (by decide) (Nat.le_of_ble_eq_true rfl) ?_
  rw [q_find_at hj]
  refine x_istore_n (n := 8) hO dL_searches_5 rfl rfl (by decide) hN ?_
  refine x_aload_n hO dL_searches_6 rfl rfl ?_
  refine x_iload_n hO dL_searches_7 rfl rfl ?_
  refine x_callV1 hO (kc_power U M h (nI j)) dL_searches_8 lkL_53 fX3_power vX3_power (by decide) rfl rfl rfl rfl rfl (by decide) (Nat.le_of_ble_eq_true rfl) ?_
  rw [q_power_at hj]
  refine x_istore_n (n := 8) hO dL_searches_11 rfl rfl (by decide) hN ?_
  refine x_aload_n hO dL_searches_12 rfl rfl ?_
  refine x_iconst (v := nI 5) hO dL_searches_13 rfl ?_
  refine x_callV1 hO (kc_total U M h (nI 5)) dL_searches_14 lkL_13 fX3_total vX3_total (by decide) rfl rfl rfl rfl rfl (by decide) (Nat.le_of_ble_eq_true rfl) ?_
  rw [q_total_5]
  refine x_istore (n := 8) hO dL_searches_17 rfl (by decide) hN ?_
  refine x_aload_n hO dL_searches_19 rfl rfl ?_
  refine x_bipush (v := nI 6) hO dL_searches_20 rfl ?_
  refine x_callV1 hO (kc_total U M h (nI 6)) dL_searches_22 lkL_13 fX3_total vX3_total (by decide) rfl rfl rfl rfl rfl (by decide) (Nat.le_of_ble_eq_true rfl) ?_
  rw [q_total_6]
  refine x_istore (n := 8) hO dL_searches_25 rfl (by decide) hN ?_
  refine x_iload_n hO dL_searches_27 rfl rfl ?_
  have hos := o_search_at s hj
  by_cases hf : aFd s.1.1 (nI j) < 32
  · have ho := aFd_oc hf
    obtain ⟨r, r1, r2⟩ := w.occ (by omega) ho
    obtain ⟨-, -, t, t1, t2, t3⟩ := w.2.2.2.1 _ ho
    obtain ⟨-, ac, c1, c2⟩ := g.2.1.2.2.2 _ ho
    obtain ⟨-, h5⟩ := g.2.1.2.2.1 t _ t1 ho t2
    rw [r2] at t2
    rw [c2] at h5
    rw [if_pos hf, r2, c2] at hos
    rw [if_pos hf, r2]
    have hr : nI r ≠ -1 := nI_m1 (by omega)
    have g1 := wg_ht g hr (s.1.2 3 + nI 1) (s.1.2 4 + nI (aPw s.1.1 (nI j) 4))
    have w1 : wfA (aHt s.1.1 (nI r)) B := g1.rows
    have eB : ∀ i, i ≠ 6 → aHt s.1.1 (nI r) t i = s.1.1 t i := fun i hi => by unfold aHt; rw [if_neg (fun z => hi z.1)]
    have b1 : aoc (aHt s.1.1 (nI r)) t = true := by unfold aoc; rw [eB 0 (by decide)]; exact t1
    have q5 : q_of (aHt s.1.1 (nI r)) 5 (nI r) = nI ac := by
      rw [q_of_at w1 b1 (by rw [eB 0 (by decide)]; exact t2) (by rw [eB 1 (by decide)]; exact t3) 5, eB 5 (by decide)]
      exact h5
    have q6 : q_of (aHt s.1.1 (nI r)) 6 (nI r) = s.1.1 t 6 + nI 1 := by
      rw [q_of_at w1 b1 (by rw [eB 0 (by decide)]; exact t2) (by rw [eB 1 (by decide)]; exact t3) 6]
      unfold aHt
      rw [if_pos ⟨rfl, t2, t3⟩]
    refine x_if_ge (tgt := 35) hO dL_searches_28 (by decide) (fun _ => ?_) (fun c => absurd (nI_pos' (by omega)) c)
    refine x_aload_n hO dL_searches_35 rfl rfl ?_
    refine x_iload_n hO dL_searches_36 rfl rfl ?_
    refine x_callV1 hO (kc_hits U M h (nI r)) dL_searches_37 lkL_35 fX3_hits vX3_hits (by decide) rfl rfl rfl rfl rfl (by decide) (Nat.le_of_ble_eq_true rfl) ?_
    rw [q_of_at w t1 t2 t3 6]
    refine x_istore (n := 8) hO dL_searches_40 rfl (by decide) hN ?_
    refine x_aload_n hO dL_searches_42 rfl rfl ?_
    refine x_iload_n hO dL_searches_43 rfl rfl ?_
    refine x_callV hO (kc_search U M h (nI j)) dL_searches_44 lkL_69 fX3_search vX3_search (by decide) rfl rfl rfl rfl rfl (by decide) (Nat.le_of_ble_eq_true rfl) (fun r M1 p1 => ?_)
    obtain ⟨rfl, h1, -⟩ := p1
    rw [hos] at h1 ⊢
    have e5 : q_of (oCur (oRec s) (aHt s.1.1 (nI r), upd (upd s.1.2 3 (s.1.2 3 + nI 1)) 4 (s.1.2 4 + nI (aPw s.1.1 (nI j) 4)))).1.1 5 (nI r) = nI ac := q5
    have e6 : q_of (oCur (oRec s) (aHt s.1.1 (nI r), upd (upd s.1.2 3 (s.1.2 3 + nI 1)) 4 (s.1.2 4 + nI (aPw s.1.1 (nI j) 4)))).1.1 6 (nI r) = s.1.1 t 6 + nI 1 := q6
    have t5 : q_total (oCur (oRec s) (aHt s.1.1 (nI r), upd (upd s.1.2 3 (s.1.2 3 + nI 1)) 4 (s.1.2 4 + nI (aPw s.1.1 (nI j) 4)))) (nI 5) = s.1.2 3 + nI 1 := rfl
    have t6 : q_total (oCur (oRec s) (aHt s.1.1 (nI r), upd (upd s.1.2 3 (s.1.2 3 + nI 1)) 4 (s.1.2 4 + nI (aPw s.1.1 (nI j) 4)))) (nI 6) = s.1.2 4 + nI (aPw s.1.1 (nI j) 4) := rfl
    generalize ((aHt s.1.1 (nI r), upd (upd s.1.2 3 (s.1.2 3 + nI 1)) 4 (s.1.2 4 + nI (aPw s.1.1 (nI j) 4))) : aSt) = z at *
    refine x_istore (n := 8) hO dL_searches_47 rfl (by decide) hN ?_
    refine x_iload_n hO dL_searches_49 rfl rfl ?_
    refine x_if_ge (tgt := 78) hO dL_searches_50 (by decide) (fun _ => ?_) (fun c => absurd (nI_pos' (by omega)) c)
    refine x_iload hO dL_searches_78 rfl ?_
    refine x_aload_n hO dL_searches_80 rfl rfl ?_
    refine x_iload_n hO dL_searches_81 rfl rfl ?_
    refine x_callV1 hO (kc_action U M1 h1 (nI r)) dL_searches_82 lkL_29 fX3_action vX3_action (by decide) rfl rfl rfl rfl rfl (by decide) (Nat.le_of_ble_eq_true rfl) ?_
    rw [e5]
    refine x_icmp_ne (tgt := 130) hO dL_searches_85 (by decide) (fun c => absurd rfl c) (fun _ => ?_)
    refine x_aload_n hO dL_searches_88 rfl rfl ?_
    refine x_iload_n hO dL_searches_89 rfl rfl ?_
    refine x_callV1 hO (kc_hits U M1 h1 (nI r)) dL_searches_90 lkL_35 fX3_hits vX3_hits (by decide) rfl rfl rfl rfl rfl (by decide) (Nat.le_of_ble_eq_true rfl) ?_
    rw [e6]
    refine x_iload hO dL_searches_93 rfl ?_
    refine x_iconst (v := nI 1) hO dL_searches_95 rfl ?_
    refine x_iadd hO dL_searches_96 ?_
    refine x_icmp_ne (tgt := 130) hO dL_searches_97 (by decide) (fun c => absurd rfl c) (fun _ => ?_)
    refine x_aload_n hO dL_searches_100 rfl rfl ?_
    refine x_iconst (v := nI 5) hO dL_searches_101 rfl ?_
    refine x_callV1 hO (kc_total U M1 h1 (nI 5)) dL_searches_102 lkL_13 fX3_total vX3_total (by decide) rfl rfl rfl rfl rfl (by decide) (Nat.le_of_ble_eq_true rfl) ?_
    rw [t5]
    refine x_iload hO dL_searches_105 rfl ?_
    refine x_iconst (v := nI 1) hO dL_searches_107 rfl ?_
    refine x_iadd hO dL_searches_108 ?_
    refine x_icmp_ne (tgt := 130) hO dL_searches_109 (by decide) (fun c => absurd rfl c) (fun _ => ?_)
    refine x_aload_n hO dL_searches_112 rfl rfl ?_
    refine x_bipush (v := nI 6) hO dL_searches_113 rfl ?_
    refine x_callV1 hO (kc_total U M1 h1 (nI 6)) dL_searches_115 lkL_13 fX3_total vX3_total (by decide) rfl rfl rfl rfl rfl (by decide) (Nat.le_of_ble_eq_true rfl) ?_
    rw [t6]
    refine x_iload hO dL_searches_118 rfl ?_
    refine x_iload_n hO dL_searches_120 rfl rfl ?_
    refine x_iadd hO dL_searches_121 ?_
    refine x_icmp_ne (tgt := 130) hO dL_searches_122 (by decide) (fun c => absurd rfl c) (fun _ => ?_)
    refine x_iload hO dL_searches_125 rfl ?_
    refine x_goto (tgt := 132) hO dL_searches_127 (by decide) ?_
    refine x_iret hO hR dL_searches_132 rfl ?_
    exact Or.inr ⟨nI_pos (by omega), z, h1, g1.up (Nat.le_succ B)⟩
  · rw [if_neg hf] at hos
    rw [if_neg hf]
    refine x_if_ge (tgt := 35) hO dL_searches_28 (by decide) (fun c => absurd c (by decide)) (fun _ => ?_)
    refine x_iconst (v := nI 0) hO dL_searches_31 rfl ?_
    refine x_goto (tgt := 40) hO dL_searches_32 (by decide) ?_
    refine x_istore (n := 8) hO dL_searches_40 rfl (by decide) hN ?_
    refine x_aload_n hO dL_searches_42 rfl rfl ?_
    refine x_iload_n hO dL_searches_43 rfl rfl ?_
    refine x_callV hO (kc_search U M h (nI j)) dL_searches_44 lkL_69 fX3_search vX3_search (by decide) rfl rfl rfl rfl rfl (by decide) (Nat.le_of_ble_eq_true rfl) (fun r M1 p1 => ?_)
    obtain ⟨rfl, h1, -⟩ := p1
    rw [hos] at h1 ⊢
    refine x_istore (n := 8) hO dL_searches_47 rfl (by decide) hN ?_
    refine x_iload_n hO dL_searches_49 rfl rfl ?_
    refine x_if_ge (tgt := 78) hO dL_searches_50 (by decide) (fun c => absurd c (by decide)) (fun _ => ?_)
    refine x_iload hO dL_searches_53 rfl ?_
    refine x_bipush (v := (-4 : Int32)) hO dL_searches_55 rfl ?_
    refine x_icmp_ne (tgt := 75) hO dL_searches_57 (by decide) (fun c => absurd rfl c) (fun _ => ?_)
    refine x_aload_n hO dL_searches_60 rfl rfl ?_
    refine x_iconst (v := nI 5) hO dL_searches_61 rfl ?_
    refine x_callV1 hO (kc_total U M1 h1 (nI 5)) dL_searches_62 lkL_13 fX3_total vX3_total (by decide) rfl rfl rfl rfl rfl (by decide) (Nat.le_of_ble_eq_true rfl) ?_
    rw [q_total_5]
    refine x_iload hO dL_searches_65 rfl ?_
    refine x_icmp_ne (tgt := 75) hO dL_searches_67 (by decide) (fun c => absurd rfl c) (fun _ => ?_)
    refine x_bipush (v := (-4 : Int32)) hO dL_searches_70 rfl ?_
    refine x_goto (tgt := 77) hO dL_searches_72 (by decide) ?_
    refine x_iret hO hR dL_searches_77 rfl ?_
    exact Or.inl ⟨h1, by decide, by decide⟩
