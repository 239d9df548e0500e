/-! ===== the law's isCounted ===== -/
theorem q_keys_at {A : aR} {i : Nat} (hi : i < 32) : q_keys A (nI i) = nI (aKs A (nI i) 256) := by
  unfold q_keys
  rw [ixB_n hi (by decide)]
  rfl
theorem q_total_8 (s : aO) : q_total s (nI 8) = nI (aKs s.1.1 (-1) 256) := rfl
theorem q_total_7 (s : aO) : q_total s (nI 7) = nI (aNever s.1.1) := rfl
theorem q_find_at {A : aR} {j : Nat} (hj : j < 256) : q_find A (nI j) = if aFd A (nI j) < 32 then A (aFd A (nI j)) 0 else -4 := by
  unfold q_find
  rw [ixB_n hj (by decide)]
  rfl
theorem q_power_at {A : aR} {j : Nat} (hj : j < 256) : q_power A (nI j) = nI (aPw A (nI j) 4) := by
  unfold q_power
  rw [ixB_n hj (by decide)]
  rfl
theorem nI_ne4 {r : Nat} (h : r < 2 ^ 31) : ¬ nI r = (-4 : Int32) := fun z => by
  have := nI_pos h
  rw [z] at this
  exact this (by decide)
theorem l_isCounted (U : xP) (M : xM) {s : aO} (h : RC M s) {B : Nat} (g : Wg s.1 B) (hB : B < 2 ^ 30) (x : Int32) : xMetI U mL_isCounted [.inr 0, .inl x] M (quC M (nI 1)) := by
  obtain ⟨⟨a, a1, a2, w⟩, o, -⟩ := g
  refine xMetI.of (ty := .boolean) (L := [some (.inr 0), some (.inl x), none, none, none, none, none]) fL_isCounted rfl rfl (Nat.le_of_ble_eq_true rfl) (fun G hN hO hR => ?_)
  have hN : G.2.2.2.2.2.2.2.2.2.2.1 = 7 := hN
  have hO : xOK U G RL cL_isCounted 6 := hO
  refine x_iconst (v := nI 0) hO dL_isCounted_0 rfl ?_
  refine x_istore_n (n := 7) hO dL_isCounted_1 rfl rfl (by decide) hN ?_
  refine x_iconst (v := nI 0) hO dL_isCounted_2 rfl ?_
  refine x_istore_n (n := 7) hO dL_isCounted_3 rfl rfl (by decide) hN ?_
  refine x_iconst (v := nI 0) hO dL_isCounted_4 rfl ?_
  refine x_istore (n := 7) hO dL_isCounted_5 rfl (by decide) hN ?_
  refine upd_ind (P := fun i _ => ∀ x5 x6 : Option xV, XW U G 7 [some (.inr 0), some (.inl x), some (.inl (nI (sK s.1.1 256 i))), some (.inl (nI (nC (fun s0 => aoc s.1.1 s0 && (aKs s.1.1 (nI s0) 256 == 0)) i))), some (.inl (nI i)), x5, x6] [] M) 32 ?_ ?_ 32 0 rfl none none
  · intro x5 x6
    refine x_iload hO dL_isCounted_7 rfl ?_
    refine x_bipush (v := nI 32) hO dL_isCounted_9 rfl ?_
    refine x_icmp_ge (tgt := 55) hO dL_isCounted_11 (by decide) (fun _ => ?_) (fun c => absurd (Int32.le_refl _) c)
    obtain ⟨j, hj, ej⟩ := pk_andE x (m := nI 255) 8 (by decide)
    refine x_iload_n hO dL_isCounted_55 rfl rfl ?_
    refine x_sipush (v := nI 255) hO dL_isCounted_56 rfl ?_
    refine x_iand hO dL_isCounted_59 ?_
    rw [ej]
    refine x_istore (n := 7) hO dL_isCounted_60 rfl (by decide) hN ?_
    refine x_aload_n hO dL_isCounted_62 rfl rfl ?_
    refine x_iload hO dL_isCounted_63 rfl ?_
    refine x_callV1 hO (kc_find U M h (nI j)) dL_isCounted_65 lkL_50 fX3_find vX3_find (by decide) rfl rfl rfl rfl rfl (by decide) (Nat.le_of_ble_eq_true rfl) ?_
    rw [q_find_at hj]
    refine x_istore (n := 7) hO dL_isCounted_68 rfl (by decide) hN ?_
    refine x_aload_n hO dL_isCounted_70 rfl rfl ?_
    refine x_iload hO dL_isCounted_71 rfl ?_
    refine x_callV1 hO (kc_power U M h (nI j)) dL_isCounted_73 lkL_53 fX3_power vX3_power (by decide) rfl rfl rfl rfl rfl (by decide) (Nat.le_of_ble_eq_true rfl) ?_
    rw [q_power_at hj]
    refine x_istore (n := 7) hO dL_isCounted_76 rfl (by decide) hN ?_
    refine x_iload_n hO dL_isCounted_78 rfl rfl ?_
    refine x_aload_n hO dL_isCounted_79 rfl rfl ?_
    refine x_bipush (v := nI 8) hO dL_isCounted_80 rfl ?_
    refine x_callV1 hO (kc_total U M h (nI 8)) dL_isCounted_82 lkL_13 fX3_total vX3_total (by decide) rfl rfl rfl rfl rfl (by decide) (Nat.le_of_ble_eq_true rfl) ?_
    refine x_iadd hO dL_isCounted_85 ?_
    rw [q_total_8, nI_add, sK_all]
    refine x_sipush (v := nI 256) hO dL_isCounted_86 rfl ?_
    refine x_icmp_ne (tgt := 133) hO dL_isCounted_89 (by decide) (fun c => absurd rfl c) (fun _ => ?_)
    refine x_aload_n hO dL_isCounted_92 rfl rfl ?_
    refine x_bipush (v := nI 7) hO dL_isCounted_93 rfl ?_
    refine x_callV1 hO (kc_total U M h (nI 7)) dL_isCounted_95 lkL_13 fX3_total vX3_total (by decide) rfl rfl rfl rfl rfl (by decide) (Nat.le_of_ble_eq_true rfl) ?_
    rw [q_total_7]
    refine x_iload_n hO dL_isCounted_98 rfl rfl ?_
    refine x_icmp_ne (tgt := 133) hO dL_isCounted_99 (by decide) (fun c => absurd rfl c) (fun _ => ?_)
    refine x_iload hO dL_isCounted_102 rfl ?_
    refine x_bipush (v := (-4 : Int32)) hO dL_isCounted_104 rfl ?_
    have hle := aCnt_le s.1.1
    have hpc := aPw_cnt s.1.1 (nI j)
    have j119 : ∀ y : Int32, XW U G 119 [some (.inr 0), some (.inl x), some (.inl (nI (sK s.1.1 256 32))), some (.inl (nI (nC (fun s0 => aoc s.1.1 s0 && (aKs s.1.1 (nI s0) 256 == 0)) 32))), some (.inl (nI j)), some (.inl y), some (.inl (nI (aPw s.1.1 (nI j) 4)))] [] M := by
      intro y
      refine x_iload hO dL_isCounted_119 rfl ?_
      refine x_aload_n hO dL_isCounted_121 rfl rfl ?_
      refine x_iconst (v := nI 0) hO dL_isCounted_122 rfl ?_
      refine x_callV1 hO (kc_total U M h (nI 0)) dL_isCounted_123 lkL_13 fX3_total vX3_total (by decide) rfl rfl rfl rfl rfl (by decide) (Nat.le_of_ble_eq_true rfl) ?_
      rw [q_total_0]
      refine x_icmp_gt (tgt := 133) hO dL_isCounted_126 (by decide) (fun c => absurd c (nI_nlt hpc (by omega))) (fun _ => ?_)
      refine x_iconst (v := nI 1) hO dL_isCounted_129 rfl ?_
      refine x_goto (tgt := 134) hO dL_isCounted_130 (by decide) ?_
      refine x_iret hO hR dL_isCounted_134 rfl ?_
      exact ⟨rfl, rfl⟩
    by_cases hf : aFd s.1.1 (nI j) < 32
    · obtain ⟨r, r1, r2⟩ := w.occ (by omega) (aFd_oc hf)
      rw [if_pos hf, r2]
      refine x_icmp_eq (tgt := 119) hO dL_isCounted_106 (by decide) (fun c => absurd c (nI_ne4 (by omega))) (fun _ => ?_)
      refine x_iload hO dL_isCounted_109 rfl ?_
      refine x_if_lt (tgt := 133) hO dL_isCounted_111 (by decide) (fun c => absurd c (nI_pos (by omega))) (fun _ => ?_)
      refine x_iload hO dL_isCounted_114 rfl ?_
      refine x_if_le (tgt := 133) hO dL_isCounted_116 (by decide) (fun c => absurd c (nI_nle (aPw_pos hf) (by omega))) (fun _ => ?_)
      exact j119 _
    · rw [if_neg hf]
      refine x_icmp_eq (tgt := 119) hO dL_isCounted_106 (by decide) (fun _ => ?_) (fun c => absurd (rfl) c)
      exact j119 _
  · intro i d hd ih x5 x6
    have hi : i < 32 := by omega
    refine x_iload hO dL_isCounted_7 rfl ?_
    refine x_bipush (v := nI 32) hO dL_isCounted_9 rfl ?_
    refine x_icmp_ge (tgt := 55) hO dL_isCounted_11 (by decide) (fun c => absurd c (nI_ge hi (by decide))) (fun _ => ?_)
    refine x_aload_n hO dL_isCounted_14 rfl rfl ?_
    refine x_iload hO dL_isCounted_15 rfl ?_
    refine x_callV1 hO (kc_keysFor U M h (nI i)) dL_isCounted_17 lkL_47 fX3_keysFor vX3_keysFor (by decide) rfl rfl rfl rfl rfl (by decide) (Nat.le_of_ble_eq_true rfl) ?_
    rw [q_keys_at hi]
    refine x_istore (n := 7) hO dL_isCounted_20 rfl (by decide) hN ?_
    refine x_iload_n hO dL_isCounted_22 rfl rfl ?_
    refine x_iload hO dL_isCounted_23 rfl ?_
    refine x_iadd hO dL_isCounted_25 ?_
    rw [nI_add]
    refine x_istore_n (n := 7) hO dL_isCounted_26 rfl rfl (by decide) hN ?_
    refine x_iload_n hO dL_isCounted_27 rfl rfl ?_
    refine x_aload_n hO dL_isCounted_28 rfl rfl ?_
    refine x_iload hO dL_isCounted_29 rfl ?_
    refine x_callV1 hO (kc_ruleIn U M h (nI i)) dL_isCounted_31 lkL_19 fX3_ruleIn vX3_ruleIn (by decide) rfl rfl rfl rfl rfl (by decide) (Nat.le_of_ble_eq_true rfl) ?_
    have j47 : ∀ b : Nat, nC (fun s0 => aoc s.1.1 s0 && (aKs s.1.1 (nI s0) 256 == 0)) (i + 1) = nC (fun s0 => aoc s.1.1 s0 && (aKs s.1.1 (nI s0) 256 == 0)) i + b → XW U G 47 [some (.inr 0), some (.inl x), some (.inl (nI (sK s.1.1 256 (i + 1)))), some (.inl (nI (nC (fun s0 => aoc s.1.1 s0 && (aKs s.1.1 (nI s0) 256 == 0)) i))), some (.inl (nI i)), some (.inl (nI (aKs s.1.1 (nI i) 256))), x6] [.inl (nI b), .inl (nI (nC (fun s0 => aoc s.1.1 s0 && (aKs s.1.1 (nI s0) 256 == 0)) i))] M := by
      intro b hb
      refine x_iadd hO dL_isCounted_47 ?_
      rw [nI_add, ← hb]
      refine x_istore_n (n := 7) hO dL_isCounted_48 rfl rfl (by decide) hN ?_
      refine x_iinc hO dL_isCounted_49 rfl (by first | exact xinc_n _ | rfl) rfl hN ?_
      refine x_goto (tgt := 7) hO dL_isCounted_52 (by decide) ?_
      exact ih _ _
    have hk : aKs s.1.1 (nI i) 256 ≤ 256 := nC_le _ _
    by_cases ho : aoc s.1.1 i = true
    · obtain ⟨r, r1, r2⟩ := w.occ (by omega) ho
      rw [q_in_t hi ho, r2]
      refine x_if_lt (tgt := 46) hO dL_isCounted_34 (by decide) (fun c => absurd c (nI_pos (by omega))) (fun _ => ?_)
      refine x_iload hO dL_isCounted_37 rfl ?_
      by_cases hz : aKs s.1.1 (nI i) 256 = 0
      · refine x_if_ne (tgt := 46) hO dL_isCounted_39 (by decide) (fun c => absurd (by rw [hz]; rfl) c) (fun _ => ?_)
        refine x_iconst (v := nI 1) hO dL_isCounted_42 rfl ?_
        refine x_goto (tgt := 47) hO dL_isCounted_43 (by decide) ?_
        exact j47 1 (nC_t (by simp [ho, hz]))
      · refine x_if_ne (tgt := 46) hO dL_isCounted_39 (by decide) (fun _ => ?_) (fun c => absurd c (fun z => hz ((nI_eq (by omega) (by decide)).mp (z : _ = nI 0))))
        refine x_iconst (v := nI 0) hO dL_isCounted_46 rfl ?_
        exact j47 0 (nC_f (by simp [hz]))
    · have ho : aoc s.1.1 i = false := by simpa using ho
      rw [q_in_f hi ho]
      refine x_if_lt (tgt := 46) hO dL_isCounted_34 (by decide) (fun _ => ?_) (fun c => absurd (by decide) c)
      refine x_iconst (v := nI 0) hO dL_isCounted_46 rfl ?_
      exact j47 0 (nC_f (by simp [ho]))
