/-! ===== the reference's texts ===== -/
theorem told_at (f : Nat → Int32) (i : Nat) (v m r a : Int32) (j : Nat) : told f i v m r a j = if j = 4 * i + 3 then a else if j = 4 * i + 2 then r else if j = 4 * i + 1 then m else if j = 4 * i then v else f j := rfl
theorem tDm_s {T : tT} {n i : Nat} {M M' : xM} (h : tDm T n i M) (e : M' 15 = told (M 15) i (nI (eV T (tB T n i) 8)) (nI (eM T (tB T n i) 8)) (rRank T n (tB T n i)) (rAct T n (tB T n i))) : tDm T n (i + 1) M' := by
  intro j hj
  rw [e]
  simp only [told_at]
  by_cases z : j = i
  · subst z
    refine ⟨?_, ?_, ?_, ?_⟩
    · rw [if_neg (by omega), if_neg (by omega), if_neg (by omega), if_pos rfl]
    · rw [if_neg (by omega), if_neg (by omega), if_pos rfl]
    · rw [if_neg (by omega), if_pos rfl]
    · rw [if_pos rfl]
  · obtain ⟨h1, h2, h3, h4⟩ := h j (by omega)
    refine ⟨?_, ?_, ?_, ?_⟩
    · rw [if_neg (by omega), if_neg (by omega), if_neg (by omega), if_neg (by omega)]; exact h1
    · rw [if_neg (by omega), if_neg (by omega), if_neg (by omega), if_neg (by omega)]; exact h2
    · rw [if_neg (by omega), if_neg (by omega), if_neg (by omega), if_neg (by omega)]; exact h3
    · rw [if_neg (by omega), if_neg (by omega), if_neg (by omega), if_neg (by omega)]; exact h4
theorem rEnd_ge {T : tT} {n p : Nat} (h : rOK T n p = true) : p + 12 ≤ rEnd T n p := by
  have := (rOK_end h).1
  have := rK_12 T n p
  omega
theorem m_readText (U : xP) (M : xM) {n : Nat} (h7 : M 9 7 = nI n) (hn : n ≤ 60) : xMetI U mX4_readText [.inr 9] M (fun r M' => r = bI (tx (M 14) n 5 0 0).1 ∧ rdM M M' (tx (M 14) n 5 0 0).2.1 ∧ ((tx (M 14) n 5 0 0).1 = true → M' 9 9 = nI (tx (M 14) n 5 0 0).2.2 ∧ tDm (M 14) n (tx (M 14) n 5 0 0).2.2 M')) := by
  refine xMetI.of (ty := .boolean) (L := [some (.inr 9), none]) fX4_readText rfl rfl (Nat.le_of_ble_eq_true rfl) (fun G hN hO hR => ?_)
  have hN : G.2.2.2.2.2.2.2.2.2.2.1 = 2 := hN
  have hO : xOK U G RX4 cX4_readText 4 := hO
  generalize hg : tx (M 14) n 5 0 0 = g at hR
  refine x_aload_n hO dX4_readText_0 rfl rfl ?_
  refine x_iconst (v := nI 0) hO dX4_readText_1 rfl ?_
  refine x_put (T := TX4) (j := 10) (ty := .int) hO dX4_readText_2 flX4_146 (by decide) rfl rfl (by decide) rfl rfl rfl (by decide +kernel) rfl rfl ?_
  refine x_aload_n hO dX4_readText_5 rfl rfl ?_
  refine x_iconst (v := nI 0) hO dX4_readText_6 rfl ?_
  refine x_put (T := TX4) (j := 9) (ty := .int) hO dX4_readText_7 flX4_158 (by decide) rfl rfl (by decide) rfl rfl rfl (by decide +kernel) rfl rfl ?_
  have hr0 : rdM M (xset (xset M 9 10 (nI 0)) 9 9 (nI 0)) 0 := by
    refine ⟨?_, fun j j9 j10 => ?_, fun k k9 k15 => ?_⟩
    · rw [xset_at, if_pos rfl, if_neg (by decide), xset_at, if_pos rfl, if_pos rfl]
    · rw [xset_at, if_pos rfl, if_neg j9, xset_at, if_pos rfl, if_neg j10]
    · rw [xset_ne _ _ _ k9, xset_ne _ _ _ k9]
  have h99 : xset (xset M 9 10 (nI 0)) 9 9 (nI 0) 9 9 = nI 0 := by rw [xset_at, if_pos rfl, if_pos rfl]
  generalize xset (xset M 9 10 (nI 0)) 9 9 (nI 0) = M0 at *
  have after := upd_ind (P := fun i d => ∀ M1 M2, rdM M M1 (tB (M 14) n i) → tDm (M 14) n i M1 → tB (M 14) n i ≤ n → 13 * i ≤ tB (M 14) n i → tx (M 14) n (d + 1) (tB (M 14) n i) i = g → rdM M1 M2 (rEnd (M 14) n (tB (M 14) n i)) → (rOK (M 14) n (tB (M 14) n i) = true → M2 9 9 = nI (i + 1) ∧ M2 15 = told (M1 15) i (nI (eV (M 14) (tB (M 14) n i) 8)) (nI (eM (M 14) (tB (M 14) n i) 8)) (rRank (M 14) n (tB (M 14) n i)) (rAct (M 14) n (tB (M 14) n i))) → XW U G 15 [some (.inr 9), some (.inl (bI (rOK (M 14) n (tB (M 14) n i))))] [] M2) 4 ?_ ?_ 4 0 rfl
  · refine x_aload_n hO dX4_readText_10 rfl rfl ?_
    refine x_callV hO (m_readRule U M0 (n := n) (p := 0) (i := 0) ((hr0.2.1 7 (by decide) (by decide)).trans h7) hr0.1 h99 hn (Nat.zero_le _) (by decide)) dX4_readText_11 lkX4_161 fX4_readRule vX4_readRule (by decide) rfl rfl rfl rfl rfl (by decide) (Nat.le_of_ble_eq_true rfl) (fun r M2 m2 => ?_)
    obtain ⟨rfl, m2, m3, -⟩ := m2
    rw [hr0.2.2 14 (by decide) (by decide)] at m2 m3 ⊢
    refine x_istore_n (n := 2) hO dX4_readText_14 rfl rfl (by decide) hN ?_
    exact after M0 M2 hr0 (fun j hj => absurd hj (Nat.not_lt_zero _)) (Nat.zero_le _) (Nat.le_refl _) hg m2 m3
  · intro M1 M2 r1 t1 l1 l2 hg2 r2 o2
    simp only [tx] at hg2
    have r12 := r1.tr r2
    generalize hpp : tB (M 14) n 4 = p at *
    cases ho : rOK (M 14) n p with
    | false =>
      rw [ho] at hg2
      refine x_iload_n hO dX4_readText_15 rfl rfl ?_
      refine x_if_eq (tgt := 55) hO dX4_readText_16 (by decide) (fun c => ?_) (fun c => ?_)
      · refine x_iload_n hO dX4_readText_55 rfl rfl ?_
        refine x_iret hO hR dX4_readText_56 rfl ?_
        rw [← hg2]
        exact ⟨rfl, r12, fun z => absurd z (by simp)⟩
      · exact absurd rfl c
    | true =>
      have le := rEnd_le (M 14) l1
      have ge := rEnd_ge ho
      have en : rEnd (M 14) n p = n := by omega
      obtain ⟨o3, o4⟩ := o2 ho
      rw [ho, if_pos rfl, if_pos en] at hg2
      refine x_iload_n hO dX4_readText_15 rfl rfl ?_
      refine x_if_eq (tgt := 55) hO dX4_readText_16 (by decide) (fun c => ?_) (fun c => ?_)
      · exact absurd c (by decide)
      · refine x_aload_n hO dX4_readText_19 rfl rfl ?_
        refine x_getI (T := TX4) (j := 10) hO dX4_readText_20 flX4_146 (by decide) rfl rfl (by decide) rfl rfl ?_
        rw [r2.1]
        refine x_aload_n hO dX4_readText_23 rfl rfl ?_
        refine x_getI (T := TX4) (j := 7) hO dX4_readText_24 flX4_143 (by decide) rfl rfl (by decide) rfl rfl ?_
        rw [r12.2.1 7 (by decide) (by decide), h7]
        refine x_icmp_ge (tgt := 55) hO dX4_readText_27 (by decide) (fun c2 => ?_) (fun c2 => ?_)
        · refine x_iload_n hO dX4_readText_55 rfl rfl ?_
          refine x_iret hO hR dX4_readText_56 rfl ?_
          rw [← hg2]
          exact ⟨rfl, r12, fun _ => ⟨o3, tDm_s t1 (by rw [hpp]; exact o4)⟩⟩
        · exact absurd ((nI_leI (by omega) (by omega)).mpr (by omega)) c2
  · intro i d hd ih M1 M2 r1 t1 l1 l2 hg2 r2 o2
    have hi : i < 4 := by omega
    rw [tx] at hg2
    have r12 := r1.tr r2
    have tb1 : tB (M 14) n (i + 1) = rEnd (M 14) n (tB (M 14) n i) + 1 := rfl
    rw [tb1] at ih
    have tds : (M2 15 = told (M1 15) i (nI (eV (M 14) (tB (M 14) n i) 8)) (nI (eM (M 14) (tB (M 14) n i) 8)) (rRank (M 14) n (tB (M 14) n i)) (rAct (M 14) n (tB (M 14) n i))) → tDm (M 14) n (i + 1) M2 := fun e => tDm_s t1 e
    generalize tB (M 14) n i = p at *
    cases ho : rOK (M 14) n p with
    | false =>
      rw [ho] at hg2
      simp only [Bool.false_eq_true, if_false] at hg2
      refine x_iload_n hO dX4_readText_15 rfl rfl ?_
      refine x_if_eq (tgt := 55) hO dX4_readText_16 (by decide) (fun c => ?_) (fun c => ?_)
      · refine x_iload_n hO dX4_readText_55 rfl rfl ?_
        refine x_iret hO hR dX4_readText_56 rfl ?_
        rw [← hg2]
        exact ⟨rfl, r12, fun z => absurd z (by simp)⟩
      · exact absurd rfl c
    | true =>
      have le := rEnd_le (M 14) l1
      have ge := rEnd_ge ho
      obtain ⟨o3, o4⟩ := o2 ho
      have td2 := tds o4
      rw [ho] at hg2
      simp only [if_true] at hg2
      generalize rEnd (M 14) n p = e at *
      have b7 : M2 9 7 = nI n := (r12.2.1 7 (by decide) (by decide)).trans h7
      have b14 : M2 14 = M 14 := r12.2.2 14 (by decide) (by decide)
      refine x_iload_n hO dX4_readText_15 rfl rfl ?_
      refine x_if_eq (tgt := 55) hO dX4_readText_16 (by decide) (fun c => ?_) (fun c => ?_)
      · exact absurd c (by decide)
      · refine x_aload_n hO dX4_readText_19 rfl rfl ?_
        refine x_getI (T := TX4) (j := 10) hO dX4_readText_20 flX4_146 (by decide) rfl rfl (by decide) rfl rfl ?_
        rw [r2.1]
        refine x_aload_n hO dX4_readText_23 rfl rfl ?_
        refine x_getI (T := TX4) (j := 7) hO dX4_readText_24 flX4_143 (by decide) rfl rfl (by decide) rfl rfl ?_
        rw [b7]
        refine x_icmp_ge (tgt := 55) hO dX4_readText_27 (by decide) (fun c2 => ?_) (fun c2 => ?_)
        · have q : e = n := by have := (nI_leI (by omega) (by omega)).mp c2; omega
          rw [if_pos q] at hg2
          refine x_iload_n hO dX4_readText_55 rfl rfl ?_
          refine x_iret hO hR dX4_readText_56 rfl ?_
          rw [← hg2]
          exact ⟨rfl, r12, fun _ => ⟨o3, td2⟩⟩
        · have q : ¬ e = n := fun z => c2 ((nI_leI (by omega) (by omega)).mpr (by omega))
          rw [if_neg q] at hg2
          refine x_aload_n hO dX4_readText_30 rfl rfl ?_
          refine x_bipush (v := nI 59) hO dX4_readText_31 rfl ?_
          refine x_callV hO (m_takes U M2 (n := n) (p := e) b7 r2.1 hn le (nI 59) (by decide)) dX4_readText_33 lkX4_152 fX4_takes vX4_takes (by decide) rfl rfl rfl rfl rfl (by decide) (Nat.le_of_ble_eq_true rfl) (fun r M3 m3 => ?_)
          obtain ⟨rfl, m3⟩ := m3
          rw [b14] at m3 ⊢
          refine x_if_eq (tgt := 50) hO dX4_readText_36 (by decide) (fun c3 => ?_) (fun c3 => ?_)
          · have q2 : ¬ sg (M 14) n e = nI 59 := by have := bI_0 c3; simpa using this
            rw [if_neg q2] at m3 hg2
            subst m3
            refine x_iconst (v := nI 0) hO dX4_readText_50 rfl ?_
            refine x_istore_n (n := 2) hO dX4_readText_51 rfl rfl (by decide) hN ?_
            refine x_goto (tgt := 15) hO dX4_readText_52 (by decide) ?_
            refine x_iload_n hO dX4_readText_15 rfl rfl ?_
            refine x_if_eq (tgt := 55) hO dX4_readText_16 (by decide) (fun c4 => ?_) (fun c4 => ?_)
            · refine x_iload_n hO dX4_readText_55 rfl rfl ?_
              refine x_iret hO hR dX4_readText_56 rfl ?_
              rw [← hg2]
              exact ⟨rfl, r12, fun z => absurd z (by simp)⟩
            · exact absurd rfl c4
          · have q2 : sg (M 14) n e = nI 59 := by have := bI_1 c3; simpa using this
            have lt := sg_lt q2 (by decide)
            rw [if_pos q2] at m3 hg2
            subst m3
            have r3 : rdM M (sp M2 (e + 1)) (e + 1) := r12.tr (sp_rd M2 (e + 1))
            have td3 : tDm (M 14) n (i + 1) (sp M2 (e + 1)) := fun j hj => by rw [sp_k _ _ (by decide)]; exact td2 j hj
            have b9 : sp M2 (e + 1) 9 9 = nI (i + 1) := by rw [sp_9 _ _ (by decide)]; exact o3
            generalize sp M2 (e + 1) = M3 at *
            refine x_aload_n hO dX4_readText_39 rfl rfl ?_
            refine x_callV hO (m_readRule U M3 (n := n) (p := e + 1) (i := i + 1) ((r3.2.1 7 (by decide) (by decide)).trans h7) r3.1 b9 hn lt (by omega)) dX4_readText_40 lkX4_161 fX4_readRule vX4_readRule (by decide) rfl rfl rfl rfl rfl (by decide) (Nat.le_of_ble_eq_true rfl) (fun r M4 m4 => ?_)
            obtain ⟨rfl, m4, m5, -⟩ := m4
            rw [r3.2.2 14 (by decide) (by decide)] at m4 m5 ⊢
            have fin := ih M3 M4 r3 td3 lt (by omega) hg2 m4 m5
            cases ho2 : rOK (M 14) n (e + 1) with
            | false =>
              rw [ho2] at fin
              refine x_if_eq (tgt := 50) hO dX4_readText_43 (by decide) (fun c5 => ?_) (fun c5 => ?_)
              · refine x_iconst (v := nI 0) hO dX4_readText_50 rfl ?_
                refine x_istore_n (n := 2) hO dX4_readText_51 rfl rfl (by decide) hN ?_
                refine x_goto (tgt := 15) hO dX4_readText_52 (by decide) ?_
                exact fin
              · exact absurd rfl c5
            | true =>
              rw [ho2] at fin
              refine x_if_eq (tgt := 50) hO dX4_readText_43 (by decide) (fun c5 => ?_) (fun c5 => ?_)
              · exact absurd c5 (by decide)
              · refine x_iconst (v := nI 1) hO dX4_readText_46 rfl ?_
                refine x_goto (tgt := 51) hO dX4_readText_47 (by decide) ?_
                refine x_istore_n (n := 2) hO dX4_readText_51 rfl rfl (by decide) hN ?_
                refine x_goto (tgt := 15) hO dX4_readText_52 (by decide) ?_
                exact fin
theorem RM.rd {M M' : xM} {s : aO} {e : Nat} (h : RM M s) (r : rdM M M' e) : RM M' s ∧ frM M M' := by
  obtain ⟨h1, h2, ⟨c0, h4, h6, h7⟩, n, h8, h9, h10⟩ := h
  have s10 : (nA M', nG M') = (nA M, nG M) := smC_eq (M := M) (M' := M') (c := 10) (c' := 10) (o := 0) (o' := 0) (fun t _ => by rw [r.2.2 10 (by decide) (by decide)])
  have s13 : smC M' 13 0 = smC M 13 0 := smC_eq (fun t _ => by rw [r.2.2 13 (by decide) (by decide)])
  have s12 : ∀ o, smC M' 12 o = smC M 12 o := fun o => smC_eq (fun t _ => by rw [r.2.2 12 (by decide) (by decide)])
  refine ⟨⟨s10.trans h1, ?_, ⟨c0, h4, (r.2.1 3 (by decide) (by decide)).trans h6, ?_⟩, n, h8, (r.2.1 7 (by decide) (by decide)).trans h9, ?_⟩, fun k hk => r.2.2 k (by omega) (by omega)⟩
  · rw [r.2.1 5 (by decide) (by decide), s13]
    exact h2
  · simp only [s12]
    exact h7
  · rw [r.2.2 14 (by decide) (by decide)]
    exact h10
