/-! ===== the law's rearranges ===== -/
theorem xs_div {n k : Nat} (hk : k < n) (hn : n ≤ 32) : aTg n k = 32 * k / n := if_neg (by omega)
theorem o_re_none {s : aO} {n : Nat} (h : nC (pOut s.1.1 n) 32 = 0) : o_re s n = (-4, s) := if_pos h
theorem o_re_some {s : aO} {n : Nat} (h : ¬ nC (pOut s.1.1 n) 32 = 0) : o_re s n = (nI (nC (pOut s.1.1 n) 32), oCur (oRec s) (aSp s.1.1 n, upd s.1.2 2 (s.1.2 2 + nI (nC (pOut s.1.1 n) 32)))) := if_neg h
theorem l_rearranges (U : xP) (M : xM) {s : aO} (h : RC M s) {B : Nat} (g : Wg s.1 B) (hB : B < 1000000) {b n : Nat} (hbn : (b = 1 ∧ n = aCnt s.1.1) ∨ (b = 0 ∧ n = 32)) : xMetI U mL_rearranges [.inr 0, .inl (nI b)] M (acP s B) := by
  have w := g.rows
  have hle := aCnt_le s.1.1
  have hn : n ≤ 32 := by omega
  have hc : aCnt s.1.1 ≤ n := by omega
  refine xMetI.of (ty := .int) (L := [some (.inr 0), some (.inl (nI b)), none, none, none, none, none]) fL_rearranges rfl rfl (Nat.le_of_ble_eq_true rfl) (fun G hN hO hR => ?_)
  have hN : G.2.2.2.2.2.2.2.2.2.2.1 = 7 := hN
  have hO : xOK U G RL cL_rearranges 6 := hO
  refine x_aload_n hO dL_rearranges_0 rfl rfl ?_
  refine x_iconst (v := nI 0) hO dL_rearranges_1 rfl ?_
  refine x_callV1 hO (kc_total U M h (nI 0)) dL_rearranges_2 lkL_13 fX3_total vX3_total (by decide) rfl rfl rfl rfl rfl (by decide) (Nat.le_of_ble_eq_true rfl) ?_
  rw [q_total_0]
  refine x_istore_n (n := 7) hO dL_rearranges_5 rfl rfl (by decide) hN ?_
  refine x_aload_n hO dL_rearranges_6 rfl rfl ?_
  refine x_iconst (v := nI 4) hO dL_rearranges_7 rfl ?_
  refine x_callV1 hO (kc_total U M h (nI 4)) dL_rearranges_8 lkL_13 fX3_total vX3_total (by decide) rfl rfl rfl rfl rfl (by decide) (Nat.le_of_ble_eq_true rfl) ?_
  rw [q_total_4]
  refine x_istore_n (n := 7) hO dL_rearranges_11 rfl rfl (by decide) hN ?_
  refine x_iload_n hO dL_rearranges_12 rfl rfl ?_
  generalize hN0 : aCnt s.1.1 = N at *
  have j47 : ∀ (s1 : aO) (r : Int32) (m : Nat) (M1 : xM), RC M1 s1 → wfA s1.1.1 (B + 1) → (∀ k, k < N → aoc s1.1.1 (aTg n k) = true) → aCnt s1.1.1 = N → nC (pOut s1.1.1 n) 32 = 0 → ((r = -4 ∧ m = 0) ∨ (r = nI m ∧ 0 < m ∧ m ≤ 32)) → s1.1.2 2 = s.1.2 2 + nI m → (∀ M', RC M' s1 → acP s B r M') → XW U G 47 [some (.inr 0), some (.inl (nI b)), some (.inl (nI N)), some (.inl (s.1.2 2)), some (.inl r), none, none] [] M1 := by
    intro s1 r m M1 h1 w1 p1 p2 p3 p4 p5 p6
    refine x_iconst (v := nI 1) hO dL_rearranges_47 rfl ?_
    refine x_goto (tgt := 52) hO dL_rearranges_48 (by decide) ?_
    refine x_istore (n := 7) hO dL_rearranges_52 rfl (by decide) hN ?_
    refine x_iconst (v := nI 0) hO dL_rearranges_54 rfl ?_
    refine x_istore (n := 7) hO dL_rearranges_55 rfl (by decide) hN ?_
    refine upd_ind (P := fun k _ => XW U G 57 [some (.inr 0), some (.inl (nI b)), some (.inl (nI N)), some (.inl (s.1.2 2)), some (.inl r), some (.inl (nI 1)), some (.inl (nI k))] [] M1) N ?_ ?_ N 0 (by omega)
    · refine x_iload hO dL_rearranges_57 rfl ?_
      refine x_iload_n hO dL_rearranges_59 rfl rfl ?_
      refine x_icmp_ge (tgt := 104) hO dL_rearranges_60 (by decide) (fun _ => ?_) (fun c => absurd (Int32.le_refl _) c)
      refine x_iload hO dL_rearranges_104 rfl ?_
      refine x_if_eq (tgt := 164) hO dL_rearranges_106 (by decide) (fun c => absurd c (nI_ne0 (by decide) (by decide))) (fun _ => ?_)
      refine x_aload_n hO dL_rearranges_109 rfl rfl ?_
      refine x_iconst (v := nI 0) hO dL_rearranges_110 rfl ?_
      refine x_callV1 hO (kc_total U M1 h1 (nI 0)) dL_rearranges_111 lkL_13 fX3_total vX3_total (by decide) rfl rfl rfl rfl rfl (by decide) (Nat.le_of_ble_eq_true rfl) ?_
      rw [q_total_0, p2]
      refine x_iload_n hO dL_rearranges_114 rfl rfl ?_
      refine x_icmp_ne (tgt := 164) hO dL_rearranges_115 (by decide) (fun c => absurd rfl c) (fun _ => ?_)
      refine x_aload_n hO dL_rearranges_118 rfl rfl ?_
      refine x_iconst (v := nI 4) hO dL_rearranges_119 rfl ?_
      refine x_callV1 hO (kc_total U M1 h1 (nI 4)) dL_rearranges_120 lkL_13 fX3_total vX3_total (by decide) rfl rfl rfl rfl rfl (by decide) (Nat.le_of_ble_eq_true rfl) ?_
      rw [q_total_4, p5]
      refine x_iload_n hO dL_rearranges_123 rfl rfl ?_
      refine x_iload hO dL_rearranges_124 rfl ?_
      have j154 : ∀ M2, RC M2 s1 → XW U G 154 [some (.inr 0), some (.inl (nI b)), some (.inl (nI N)), some (.inl (s.1.2 2)), some (.inl r), some (.inl (nI 1)), some (.inl (nI N))] [.inl (-4)] M2 := by
        intro M2 h2
        refine x_bipush (v := (-4 : Int32)) hO dL_rearranges_154 rfl ?_
        refine x_icmp_ne (tgt := 164) hO dL_rearranges_156 (by decide) (fun c => absurd rfl c) (fun _ => ?_)
        refine x_iload hO dL_rearranges_159 rfl ?_
        refine x_goto (tgt := 166) hO dL_rearranges_161 (by decide) ?_
        refine x_iret hO hR dL_rearranges_166 rfl ?_
        exact p6 M2 h2
      have j135 : XW U G 135 [some (.inr 0), some (.inl (nI b)), some (.inl (nI N)), some (.inl (s.1.2 2)), some (.inl r), some (.inl (nI 1)), some (.inl (nI N))] [.inl (nI m), .inl (s.1.2 2), .inl (s.1.2 2 + nI m)] M1 := by
        refine x_iadd hO dL_rearranges_135 ?_
        refine x_icmp_ne (tgt := 164) hO dL_rearranges_136 (by decide) (fun c => absurd rfl c) (fun _ => ?_)
        refine x_iload_n hO dL_rearranges_139 rfl rfl ?_
        rcases hbn with ⟨b1, b2⟩ | ⟨b1, b2⟩
        · subst b1
          refine x_if_eq (tgt := 150) hO dL_rearranges_140 (by decide) (fun c => absurd c (nI_ne0 (by decide) (by decide))) (fun _ => ?_)
          refine x_aload_n hO dL_rearranges_143 rfl rfl ?_
          refine x_callV hO (kc_spread U M1 h1) dL_rearranges_144 lkL_98 fX3_spread vX3_spread (by decide) rfl rfl rfl rfl rfl (by decide) (Nat.le_of_ble_eq_true rfl) (fun r M2 q2 => ?_)
          obtain ⟨rfl, h2, -⟩ := q2
          rw [o_re_none (by rw [p2, ← b2]; exact p3)] at h2 ⊢
          refine x_goto (tgt := 154) hO dL_rearranges_147 (by decide) ?_
          exact j154 M2 h2
        · subst b1
          refine x_if_eq (tgt := 150) hO dL_rearranges_140 (by decide) (fun _ => ?_) (fun c => absurd (rfl) c)
          refine x_aload_n hO dL_rearranges_150 rfl rfl ?_
          refine x_callV hO (kc_compact U M1 h1) dL_rearranges_151 lkL_102 fX3_compact vX3_compact (by decide) rfl rfl rfl rfl rfl (by decide) (Nat.le_of_ble_eq_true rfl) (fun r M2 q2 => ?_)
          obtain ⟨rfl, h2, -⟩ := q2
          rw [o_re_none (by have p3 := p3; rw [b2] at p3; exact p3)] at h2 ⊢
          exact j154 M2 h2
      rcases p4 with ⟨rfl, rfl⟩ | ⟨rfl, m0, m1⟩
      · refine x_if_le (tgt := 134) hO dL_rearranges_126 (by decide) (fun _ => ?_) (fun c => absurd (by decide) c)
        refine x_iconst (v := nI 0) hO dL_rearranges_134 rfl ?_
        exact j135
      · refine x_if_le (tgt := 134) hO dL_rearranges_126 (by decide) (fun c => absurd c (nI_nle m0 (by omega))) (fun _ => ?_)
        refine x_iload hO dL_rearranges_129 rfl ?_
        refine x_goto (tgt := 135) hO dL_rearranges_131 (by decide) ?_
        exact j135
    · intro k d hd ih
      refine x_iload hO dL_rearranges_57 rfl ?_
      refine x_iload_n hO dL_rearranges_59 rfl rfl ?_
      refine x_icmp_ge (tgt := 104) hO dL_rearranges_60 (by decide) (fun c => absurd c (nI_ge (by omega) (by omega))) (fun _ => ?_)
      refine x_iload hO dL_rearranges_63 rfl ?_
      refine x_if_eq (tgt := 104) hO dL_rearranges_65 (by decide) (fun c => absurd c (nI_ne0 (by decide) (by decide))) (fun _ => ?_)
      refine x_aload_n hO dL_rearranges_68 rfl rfl ?_
      refine x_iload_n hO dL_rearranges_69 rfl rfl ?_
      have ht : aTg n k < 32 := aTg_lt (Or.inl (by omega))
      have ho := p1 k (by omega)
      obtain ⟨r', r1, r2⟩ := w1.occ (by omega) ho
      have j85 : XW U G 85 [some (.inr 0), some (.inl (nI b)), some (.inl (nI N)), some (.inl (s.1.2 2)), some (.inl r), some (.inl (nI 1)), some (.inl (nI k))] [.inl (nI (aTg n k)), .inr 0] M1 := by
        refine x_callV1 hO (kc_ruleIn U M1 h1 (nI (aTg n k))) dL_rearranges_85 lkL_19 fX3_ruleIn vX3_ruleIn (by decide) rfl rfl rfl rfl rfl (by decide) (Nat.le_of_ble_eq_true rfl) ?_
        rw [q_in_t ht ho, r2]
        refine x_if_lt (tgt := 95) hO dL_rearranges_88 (by decide) (fun c => absurd c (nI_pos (by omega))) (fun _ => ?_)
        refine x_iconst (v := nI 1) hO dL_rearranges_91 rfl ?_
        refine x_goto (tgt := 96) hO dL_rearranges_92 (by decide) ?_
        refine x_istore (n := 7) hO dL_rearranges_96 rfl (by decide) hN ?_
        refine x_iinc hO dL_rearranges_98 rfl (by first | exact xinc_n _ | rfl) rfl hN ?_
        refine x_goto (tgt := 57) hO dL_rearranges_101 (by decide) ?_
        exact ih
      rcases hbn with ⟨b1, b2⟩ | ⟨b1, b2⟩
      · subst b1
        refine x_if_eq (tgt := 83) hO dL_rearranges_70 (by decide) (fun c => absurd c (nI_ne0 (by decide) (by decide))) (fun _ => ?_)
        refine x_bipush (v := nI 32) hO dL_rearranges_73 rfl ?_
        refine x_iload hO dL_rearranges_75 rfl ?_
        refine x_imul hO dL_rearranges_77 ?_
        rw [pk_mul]
        refine x_iload_n hO dL_rearranges_78 rfl rfl ?_
        refine x_idivN hO (by omega) (by omega) (by omega) dL_rearranges_79 ?_
        rw [b2, xs_div (by omega) (by omega)] at j85
        refine x_goto (tgt := 85) hO dL_rearranges_80 (by decide) ?_
        exact j85
      · subst b1
        refine x_if_eq (tgt := 83) hO dL_rearranges_70 (by decide) (fun _ => ?_) (fun c => absurd (rfl) c)
        rw [b2, xs_div (by omega) (by omega), show 32 * k / 32 = k by omega] at j85
        refine x_iload hO dL_rearranges_83 rfl ?_
        exact j85
  have j27 : ∀ M1, RC M1 (o_re s n).2 → XW U G 27 [some (.inr 0), some (.inl (nI b)), some (.inl (nI N)), some (.inl (s.1.2 2)), none, none, none] [.inl (o_re s n).1] M1 := by
    intro M1 h1
    by_cases q : nC (pOut s.1.1 n) 32 = 0
    · rw [o_re_none q] at h1 ⊢
      refine x_istore (n := 7) hO dL_rearranges_27 rfl (by decide) hN ?_
      refine x_iload hO dL_rearranges_29 rfl ?_
      refine x_bipush (v := (-4 : Int32)) hO dL_rearranges_31 rfl ?_
      refine x_icmp_eq (tgt := 47) hO dL_rearranges_33 (by decide) (fun _ => ?_) (fun c => absurd (rfl) c)
      refine j47 s (-4) 0 M1 h1 (w.up (by omega)) (fun k hk => out_none q (by omega)) hN0 q (Or.inl ⟨rfl, rfl⟩) (Int32.add_zero _).symm (fun M' h' => Or.inl ⟨h', by decide, by decide⟩)
    · have ho := out_le s.1.1 n
      rw [o_re_some q] at h1 ⊢
      have hg := wg_sp g hn (by omega) (s.1.2 2 + nI (nC (pOut s.1.1 n) 32))
      generalize hm : nC (pOut s.1.1 n) 32 = m at *
      refine x_istore (n := 7) hO dL_rearranges_27 rfl (by decide) hN ?_
      refine x_iload hO dL_rearranges_29 rfl ?_
      refine x_bipush (v := (-4 : Int32)) hO dL_rearranges_31 rfl ?_
      refine x_icmp_eq (tgt := 47) hO dL_rearranges_33 (by decide) (fun c => absurd c (nI_ne4 (by omega))) (fun _ => ?_)
      refine x_iload hO dL_rearranges_36 rfl ?_
      refine x_if_le (tgt := 51) hO dL_rearranges_38 (by decide) (fun c => absurd c (nI_nle (by omega) (by omega))) (fun _ => ?_)
      refine x_iload hO dL_rearranges_41 rfl ?_
      refine x_iload_n hO dL_rearranges_43 rfl rfl ?_
      refine x_icmp_gt (tgt := 51) hO dL_rearranges_44 (by decide) (fun c => absurd c (nI_nlt (by omega) (by omega))) (fun _ => ?_)
      refine j47 _ (nI m) m M1 h1 (hg.up (Nat.le_succ B)).rows (fun k hk => aSp_oc hn (by omega)) ((aSp_cnt w.ge hn (by omega)).trans hN0) (aSp_out w.ge hn) (Or.inr ⟨rfl, by omega, by omega⟩) rfl (fun M' h' => Or.inr ⟨nI_pos (by omega), _, h', hg.up (Nat.le_succ B)⟩)
  rcases id hbn with ⟨b1, b2⟩ | ⟨b1, b2⟩
  · subst b1
    refine x_if_eq (tgt := 23) hO dL_rearranges_13 (by decide) (fun c => absurd c (nI_ne0 (by decide) (by decide))) (fun _ => ?_)
    refine x_aload_n hO dL_rearranges_16 rfl rfl ?_
    refine x_callV hO (kc_spread U M h) dL_rearranges_17 lkL_98 fX3_spread vX3_spread (by decide) rfl rfl rfl rfl rfl (by decide) (Nat.le_of_ble_eq_true rfl) (fun r M1 p1 => ?_)
    obtain ⟨rfl, h1, -⟩ := p1
    rw [show aCnt s.1.1 = n by rw [hN0, b2]] at h1 ⊢
    refine x_goto (tgt := 27) hO dL_rearranges_20 (by decide) ?_
    exact j27 M1 h1
  · subst b1
    refine x_if_eq (tgt := 23) hO dL_rearranges_13 (by decide) (fun _ => ?_) (fun c => absurd (rfl) c)
    refine x_aload_n hO dL_rearranges_23 rfl rfl ?_
    refine x_callV hO (kc_compact U M h) dL_rearranges_24 lkL_102 fX3_compact vX3_compact (by decide) rfl rfl rfl rfl rfl (by decide) (Nat.le_of_ble_eq_true rfl) (fun r M1 p1 => ?_)
    obtain ⟨rfl, h1, -⟩ := p1
    rw [← b2] at h1 ⊢
    exact j27 M1 h1
