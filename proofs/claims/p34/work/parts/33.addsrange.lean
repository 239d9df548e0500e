/-! ===== the law's addsRange ===== -/
theorem bCn_le (h : Nat) : ∀ (d f : Nat), bCn h f d ≤ d
  | 0, _ => Nat.le_refl _
  | d + 1, f => by
    simp only [bCn]
    split
    · omega
    · have := bCn_le h d (f + bS f h); omega
theorem rgB_at {f h : Nat} (hf : f ≤ h) (hh : h < 256) : rgB (nI f) (nI h) = true := by
  unfold rgB
  rw [ixB_n (by omega) (by decide), ixB_n hh (by decide), decide_eq_true ((nI_leI (by omega) (by omega)).mpr hf)]
  rfl
theorem q_ef_at {f h : Nat} (hf : f ≤ h) (hh : h < 256) : q_ef (nI f) (nI h) = nI (bCn h f 14) := by
  unfold q_ef
  rw [rgB_at hf hh, nI_clamp (by omega), nI_clamp (by omega)]
  rfl
theorem o_addRange_at (s : aO) {f h k a : Nat} (hf : f ≤ h) (hh : h < 256) (hk : k < 100) (ha : a < 10) : o_addRange s (nI f) (nI h) (nI k) (nI a) = if 32 - aCnt s.1.1 < bCn h f 14 then (-3, s) else (s.1.2 1, oCur (oRec s) (blkS s.1 f h (nI k) (nI a))) := by
  unfold o_addRange
  rw [rgB_at hf hh, ixB_n hk (by decide), ixB_n ha (by decide), nI_clamp (by omega), nI_clamp (by omega)]
  rfl
theorem l_addsRange (U : xP) (M : xM) {s : aO} (h : RC M s) {B : Nat} (g : Wg s.1 B) (hB : B < 1000000) {y : Nat} (hy : y < 2 ^ 31) : xMetI U mL_addsRange [.inr 0, .inl (nI y)] M (acP s B) := by
  obtain ⟨a0, l0, e0, w⟩ := id g.1
  have hr : s.1.2 1 ≠ -1 := by rw [e0]; exact nI_m1 (by omega)
  have hle := aCnt_le s.1.1
  refine xMetI.of (ty := .int) (L := [some (.inr 0), some (.inl (nI y)), none, none, none, none, none]) fL_addsRange rfl rfl (Nat.le_of_ble_eq_true rfl) (fun G hN hO hR => ?_)
  have hN : G.2.2.2.2.2.2.2.2.2.2.1 = 7 := hN
  have hO : xOK U G RL cL_addsRange 6 := hO
  refine x_iload_n hO dL_addsRange_0 rfl rfl ?_
  refine x_sipush (v := nI 255) hO dL_addsRange_1 rfl ?_
  refine x_iand8 hO dL_addsRange_4 (fun f hf => ?_)
  refine x_istore_n (n := 7) hO dL_addsRange_5 rfl rfl (by decide) hN ?_
  refine x_iload_n hO dL_addsRange_6 rfl rfl ?_
  refine x_iload_n hO dL_addsRange_7 rfl rfl ?_
  refine x_bipush (v := nI 8) hO dL_addsRange_8 rfl ?_
  refine x_ishrN hO hy (by decide) dL_addsRange_10 ?_
  refine x_bipush (v := nI 40) hO dL_addsRange_11 rfl ?_
  refine x_iremN hO (by omega) (by decide) (by decide) dL_addsRange_13 ?_
  refine x_sipush (v := nI 256) hO dL_addsRange_14 rfl ?_
  refine x_iload_n hO dL_addsRange_17 rfl rfl ?_
  refine x_isub hO dL_addsRange_18 ?_
  rw [pk_sub (by omega)]
  refine x_iremN hO (by omega) (by omega) (by omega) dL_addsRange_19 ?_
  refine x_iadd hO dL_addsRange_20 ?_
  rw [nI_add]
  obtain ⟨hi, hfh, hhi, eh⟩ : ∃ hi, f ≤ hi ∧ hi < 256 ∧ f + y / 2 ^ 8 % 40 % (256 - f) = hi := ⟨_, by omega, by have := Nat.mod_lt (y / 2 ^ 8 % 40) (show 0 < 256 - f by omega); omega, rfl⟩
  rw [eh]
  have hb14 := bCn_le hi 14 f
  refine x_istore_n (n := 7) hO dL_addsRange_21 rfl rfl (by decide) hN ?_
  refine x_aload_n hO dL_addsRange_22 rfl rfl ?_
  refine x_iload_n hO dL_addsRange_23 rfl rfl ?_
  refine x_iload_n hO dL_addsRange_24 rfl rfl ?_
  refine x_callV1 hO (kc_entriesFor U M (nI f) (nI hi)) dL_addsRange_25 lkL_75 fX3_entriesFor vX3_entriesFor (by decide) rfl rfl rfl rfl rfl (by decide) (Nat.le_of_ble_eq_true rfl) ?_
  rw [q_ef_at hfh hhi]
  refine x_istore (n := 7) hO dL_addsRange_28 rfl (by decide) hN ?_
  refine x_aload_n hO dL_addsRange_30 rfl rfl ?_
  refine x_iconst (v := nI 0) hO dL_addsRange_31 rfl ?_
  refine x_callV1 hO (kc_total U M h (nI 0)) dL_addsRange_32 lkL_13 fX3_total vX3_total (by decide) rfl rfl rfl rfl rfl (by decide) (Nat.le_of_ble_eq_true rfl) ?_
  rw [q_total_0]
  refine x_istore (n := 7) hO dL_addsRange_35 rfl (by decide) hN ?_
  refine x_aload_n hO dL_addsRange_37 rfl rfl ?_
  refine x_iload_n hO dL_addsRange_38 rfl rfl ?_
  refine x_iload_n hO dL_addsRange_39 rfl rfl ?_
  refine x_iload_n hO dL_addsRange_40 rfl rfl ?_
  refine x_bipush (v := nI 14) hO dL_addsRange_41 rfl ?_
  refine x_ishrN hO hy (by decide) dL_addsRange_43 ?_
  refine x_iconst (v := nI 5) hO dL_addsRange_44 rfl ?_
  refine x_iremN hO (by omega) (by decide) (by decide) dL_addsRange_45 ?_
  refine x_bipush (v := nI 20) hO dL_addsRange_46 rfl ?_
  refine x_imul hO dL_addsRange_48 ?_
  rw [pk_mul]
  obtain ⟨k, hk, ek⟩ : ∃ k, k < 100 ∧ y / 2 ^ 14 % 5 * 20 = k := ⟨_, by omega, rfl⟩
  rw [ek]
  refine x_iload_n hO dL_addsRange_49 rfl rfl ?_
  refine x_bipush (v := nI 17) hO dL_addsRange_50 rfl ?_
  refine x_ishrN hO hy (by decide) dL_addsRange_52 ?_
  refine x_bipush (v := nI 10) hO dL_addsRange_53 rfl ?_
  refine x_iremN hO (by omega) (by decide) (by decide) dL_addsRange_55 ?_
  obtain ⟨a, ha, ea⟩ : ∃ a, a < 10 ∧ y / 2 ^ 17 % 10 = a := ⟨_, by omega, rfl⟩
  rw [ea]
  refine x_callV hO (kc_addRange U M h hr (nI f) (nI hi) (nI k) (nI a)) dL_addsRange_56 lkL_60 fX3_addRange vX3_addRange (by decide) rfl rfl rfl rfl rfl (by decide) (Nat.le_of_ble_eq_true rfl) (fun r M1 p1 => ?_)
  obtain ⟨rfl, h1, -⟩ := p1
  rw [o_addRange_at s hfh hhi hk ha] at h1 ⊢
  generalize hn : bCn hi f 14 = n at *
  by_cases q : 32 - aCnt s.1.1 < n
  · rw [if_pos q] at h1 ⊢
    refine x_istore (n := 7) hO dL_addsRange_59 rfl (by decide) hN ?_
    refine x_iload hO dL_addsRange_61 rfl ?_
    refine x_iload hO dL_addsRange_63 rfl ?_
    refine x_iadd hO dL_addsRange_65 ?_
    rw [nI_add]
    refine x_bipush (v := nI 32) hO dL_addsRange_66 rfl ?_
    refine x_icmp_le (tgt := 86) hO dL_addsRange_68 (by decide) (fun c => absurd c (nI_ge (by omega) (by omega))) (fun _ => ?_)
    refine x_iload hO dL_addsRange_71 rfl ?_
    refine x_bipush (v := (-3 : Int32)) hO dL_addsRange_73 rfl ?_
    refine x_icmp_ne (tgt := 83) hO dL_addsRange_75 (by decide) (fun c => absurd rfl c) (fun _ => ?_)
    refine x_bipush (v := (-3 : Int32)) hO dL_addsRange_78 rfl ?_
    refine x_goto (tgt := 85) hO dL_addsRange_80 (by decide) ?_
    refine x_iret hO hR dL_addsRange_85 rfl ?_
    exact Or.inl ⟨h1, by decide, by decide⟩
  · rw [if_neg q] at h1 ⊢
    obtain ⟨g1, c1, c2⟩ := wg_blkS g hB (kk := k) (aa := a) hfh hhi (by omega) hk ha
    rw [hn] at c1 c2
    have t2 : q_total (oCur (oRec s) (blkS s.1 f hi (nI k) (nI a))) (nI 2) = s.1.2 1 + nI 1 := rfl
    have t0 : q_total (oCur (oRec s) (blkS s.1 f hi (nI k) (nI a))) (nI 0) = nI (aCnt s.1.1 + n) := by
      rw [q_total_0]
      exact congrArg nI c1
    have hn0 : 0 < n := by
      rw [← hn]
      simp only [bCn]
      rw [if_neg (by omega)]
      omega
    have tp : q_parts (oCur (oRec s) (blkS s.1 f hi (nI k) (nI a))).1.1 (s.1.2 1) = nI n := by
      show q_parts (blkS s.1 f hi (nI k) (nI a)).1 (s.1.2 1) = nI n
      unfold q_parts
      rw [c2, if_neg (by omega)]
    generalize blkS s.1 f hi (nI k) (nI a) = z at *
    rw [e0] at t2 tp ⊢
    refine x_istore (n := 7) hO dL_addsRange_59 rfl (by decide) hN ?_
    refine x_iload hO dL_addsRange_61 rfl ?_
    refine x_iload hO dL_addsRange_63 rfl ?_
    refine x_iadd hO dL_addsRange_65 ?_
    rw [nI_add]
    refine x_bipush (v := nI 32) hO dL_addsRange_66 rfl ?_
    refine x_icmp_le (tgt := 86) hO dL_addsRange_68 (by decide) (fun _ => ?_) (fun c => absurd (nI_le (by omega) (by decide)) c)
    refine x_aload_n hO dL_addsRange_86 rfl rfl ?_
    refine x_iconst (v := nI 0) hO dL_addsRange_87 rfl ?_
    refine x_callV1 hO (kc_total U M1 h1 (nI 0)) dL_addsRange_88 lkL_13 fX3_total vX3_total (by decide) rfl rfl rfl rfl rfl (by decide) (Nat.le_of_ble_eq_true rfl) ?_
    rw [t0]
    refine x_iload hO dL_addsRange_91 rfl ?_
    refine x_iload hO dL_addsRange_93 rfl ?_
    refine x_iadd hO dL_addsRange_95 ?_
    rw [nI_add]
    refine x_icmp_ne (tgt := 127) hO dL_addsRange_96 (by decide) (fun c => absurd rfl c) (fun _ => ?_)
    refine x_iload hO dL_addsRange_99 rfl ?_
    refine x_aload_n hO dL_addsRange_101 rfl rfl ?_
    refine x_iconst (v := nI 2) hO dL_addsRange_102 rfl ?_
    refine x_callV1 hO (kc_total U M1 h1 (nI 2)) dL_addsRange_103 lkL_13 fX3_total vX3_total (by decide) rfl rfl rfl rfl rfl (by decide) (Nat.le_of_ble_eq_true rfl) ?_
    rw [t2]
    refine x_iconst (v := nI 1) hO dL_addsRange_106 rfl ?_
    refine x_isub hO dL_addsRange_107 ?_
    rw [nI_add, nI_sub1]
    refine x_icmp_ne (tgt := 127) hO dL_addsRange_108 (by decide) (fun c => absurd rfl c) (fun _ => ?_)
    refine x_aload_n hO dL_addsRange_111 rfl rfl ?_
    refine x_iload hO dL_addsRange_112 rfl ?_
    refine x_callV1 hO (kc_parts U M1 h1 (nI a0)) dL_addsRange_114 lkL_38 fX3_parts vX3_parts (by decide) rfl rfl rfl rfl rfl (by decide) (Nat.le_of_ble_eq_true rfl) ?_
    rw [tp]
    refine x_iload hO dL_addsRange_117 rfl ?_
    refine x_icmp_ne (tgt := 127) hO dL_addsRange_119 (by decide) (fun c => absurd rfl c) (fun _ => ?_)
    refine x_iload hO dL_addsRange_122 rfl ?_
    refine x_goto (tgt := 129) hO dL_addsRange_124 (by decide) ?_
    refine x_iret hO hR dL_addsRange_129 rfl ?_
    exact Or.inr ⟨nI_pos (by omega), z, h1, g1⟩
