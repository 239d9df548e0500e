/-! ===== the law's adds ===== -/
theorem x_iremN {U : xP} {G : xG} {own : String} {cc : ByteArray} {K pc : Nat} {L : List (Option xV)} {st : List xV} {M : xM} (hO : xOK U G own cc K) {a d : Nat} (ha : a < 2 ^ 31) (h0 : 0 < d) (h1 : d < 2 ^ 31) (hd : decode cc pc = .ok (.irem, 1)) (kk : XW U G (pc + 1) L (.inl (nI (a % d)) :: st) M) : XW U G pc L (.inl (nI d) :: .inl (nI a) :: st) M := by
  refine x_irem hO hd (nI_ne0 h0 h1) ?_
  rw [pk_rem ha h0 h1]
  exact kk
theorem x_idivN {U : xP} {G : xG} {own : String} {cc : ByteArray} {K pc : Nat} {L : List (Option xV)} {st : List xV} {M : xM} (hO : xOK U G own cc K) {a d : Nat} (ha : a < 2 ^ 31) (h0 : 0 < d) (h1 : d < 2 ^ 31) (hd : decode cc pc = .ok (.idiv, 1)) (kk : XW U G (pc + 1) L (.inl (nI (a / d)) :: st) M) : XW U G pc L (.inl (nI d) :: .inl (nI a) :: st) M := by
  refine x_idiv hO hd (nI_ne0 h0 h1) ?_
  rw [pk_div ha h0 h1]
  exact kk
theorem x_ishrN {U : xP} {G : xG} {own : String} {cc : ByteArray} {K pc : Nat} {L : List (Option xV)} {st : List xV} {M : xM} (hO : xOK U G own cc K) {a k : Nat} (ha : a < 2 ^ 31) (hk : ((nI k &&& 31).toBitVec.smod 32).toNat = k) (hd : decode cc pc = .ok (.ishr, 1)) (kk : XW U G (pc + 1) L (.inl (nI (a / 2 ^ k)) :: st) M) : XW U G pc L (.inl (nI k) :: .inl (nI a) :: st) M := by
  refine x_ishr hO hd ?_
  rw [pk_shrN ha _ k hk]
  exact kk
theorem x_iand8 {U : xP} {G : xG} {own : String} {cc : ByteArray} {K pc : Nat} {L : List (Option xV)} {st : List xV} {M : xM} (hO : xOK U G own cc K) {x : Int32} (hd : decode cc pc = .ok (.iand, 1)) (kk : ∀ v : Nat, v < 256 → XW U G (pc + 1) L (.inl (nI v) :: st) M) : XW U G pc L (.inl (nI 255) :: .inl x :: st) M := by
  refine x_iand hO hd ?_
  obtain ⟨j, hj, ej⟩ := pk_andE x (m := nI 255) 8 (by decide)
  rw [ej]
  exact kk j hj
/-- what a change answers and leaves: refused or nothing to do (below 0), and all is as it was; or a state behind the recorded one -/
def acP (s : aO) (B : Nat) : Int32 → xM → Prop := fun r M' => (RC M' s ∧ r < 0 ∧ ¬ r ≤ -9) ∨ (¬ r < 0 ∧ ∃ y, RC M' (oCur (oRec s) y) ∧ Wg y (B + 1))
theorem q_total_3 (s : aO) : q_total s (nI 3) = s.1.2 0 := rfl
theorem q_total_4 (s : aO) : q_total s (nI 4) = s.1.2 2 := rfl
theorem q_total_5 (s : aO) : q_total s (nI 5) = s.1.2 3 := rfl
theorem q_total_6 (s : aO) : q_total s (nI 6) = s.1.2 4 := rfl
theorem q_total_9 (s : aO) : q_total s (nI 9) = nI s.2.2.1.length := rfl
theorem q_wm_at {A : aR} {k : Nat} (hk : k < 100) : q_wm A (nI k) = if aCnt A = 32 then -3 else nI (oM A (nI k)) := by
  unfold q_wm
  rw [ixB_n hk (by decide)]
  rfl
theorem o_addRule_at (s : aO) {v m k a : Nat} (hv : v < 256) (hm : m < 256) (hk : k < 100) (ha : a < 10) : o_addRule s (nI v) (nI m) (nI k) (nI a) = if aCnt s.1.1 = 32 then (-3, s) else (s.1.2 1, oCur (oRec s) (addS s.1 (nI v) (nI m) (nI k) (nI a))) := by
  unfold o_addRule argB
  rw [ixB_n hv (by decide), ixB_n hm (by decide), ixB_n hk (by decide), ixB_n ha (by decide)]
  rfl
theorem l_adds (U : xP) (M : xM) {s : aO} (h : RC M s) {B : Nat} (g : Wg s.1 B) (hB : B < 1000000) {y : Nat} (hy : y < 2 ^ 31) : xMetI U mL_adds [.inr 0, .inl (nI y)] M (acP s B) := by
  obtain ⟨a0, l0, e0, w⟩ := id g.1
  have hr : s.1.2 1 ≠ -1 := by rw [e0]; exact nI_m1 (by omega)
  have hle := aCnt_le s.1.1
  refine xMetI.of (ty := .int) (L := [some (.inr 0), some (.inl (nI y)), none, none, none, none, none]) fL_adds rfl rfl (Nat.le_of_ble_eq_true rfl) (fun G hN hO hR => ?_)
  have hN : G.2.2.2.2.2.2.2.2.2.2.1 = 7 := hN
  have hO : xOK U G RL cL_adds 6 := hO
  refine x_iload_n hO dL_adds_0 rfl rfl ?_
  refine x_iconst (v := nI 5) hO dL_adds_1 rfl ?_
  refine x_iremN hO hy (by decide) (by decide) dL_adds_2 ?_
  refine x_bipush (v := nI 20) hO dL_adds_3 rfl ?_
  refine x_imul hO dL_adds_5 ?_
  rw [pk_mul]
  obtain ⟨k, hk, ek⟩ : ∃ k, k < 100 ∧ y % 5 * 20 = k := ⟨_, by omega, rfl⟩
  rw [ek]
  refine x_istore_n (n := 7) hO dL_adds_6 rfl rfl (by decide) hN ?_
  refine x_aload_n hO dL_adds_7 rfl rfl ?_
  refine x_iconst (v := nI 0) hO dL_adds_8 rfl ?_
  refine x_callV1 hO (kc_total U M h (nI 0)) dL_adds_9 lkL_13 fX3_total vX3_total (by decide) rfl rfl rfl rfl rfl (by decide) (Nat.le_of_ble_eq_true rfl) ?_
  rw [q_total_0]
  refine x_istore_n (n := 7) hO dL_adds_12 rfl rfl (by decide) hN ?_
  refine x_aload_n hO dL_adds_13 rfl rfl ?_
  refine x_iconst (v := nI 4) hO dL_adds_14 rfl ?_
  refine x_callV1 hO (kc_total U M h (nI 4)) dL_adds_15 lkL_13 fX3_total vX3_total (by decide) rfl rfl rfl rfl rfl (by decide) (Nat.le_of_ble_eq_true rfl) ?_
  rw [q_total_4]
  refine x_istore (n := 7) hO dL_adds_18 rfl (by decide) hN ?_
  refine x_aload_n hO dL_adds_20 rfl rfl ?_
  refine x_iload_n hO dL_adds_21 rfl rfl ?_
  refine x_callV1 hO (kc_wouldMove U M h (nI k)) dL_adds_22 lkL_72 fX3_wouldMove vX3_wouldMove (by decide) rfl rfl rfl rfl rfl (by decide) (Nat.le_of_ble_eq_true rfl) ?_
  rw [q_wm_at hk]
  refine x_istore (n := 7) hO dL_adds_25 rfl (by decide) hN ?_
  refine x_aload_n hO dL_adds_27 rfl rfl ?_
  refine x_iload_n hO dL_adds_28 rfl rfl ?_
  refine x_iconst (v := nI 3) hO dL_adds_29 rfl ?_
  refine x_ishr hO dL_adds_30 ?_
  refine x_sipush (v := nI 255) hO dL_adds_31 rfl ?_
  refine x_iand8 hO dL_adds_34 (fun v hv => ?_)
  refine x_sipush (v := nI 255) hO dL_adds_35 rfl ?_
  refine x_iload_n hO dL_adds_38 rfl rfl ?_
  refine x_bipush (v := nI 11) hO dL_adds_39 rfl ?_
  refine x_ishrN hO hy (by decide) dL_adds_41 ?_
  refine x_bipush (v := nI 9) hO dL_adds_42 rfl ?_
  refine x_iremN hO (by omega) (by decide) (by decide) dL_adds_44 ?_
  refine x_ishl hO dL_adds_45 ?_
  refine x_sipush (v := nI 255) hO dL_adds_46 rfl ?_
  refine x_iand8 hO dL_adds_49 (fun m hm => ?_)
  refine x_iload_n hO dL_adds_50 rfl rfl ?_
  refine x_iload_n hO dL_adds_51 rfl rfl ?_
  refine x_bipush (v := nI 15) hO dL_adds_52 rfl ?_
  refine x_ishrN hO hy (by decide) dL_adds_54 ?_
  refine x_bipush (v := nI 10) hO dL_adds_55 rfl ?_
  refine x_iremN hO (by omega) (by decide) (by decide) dL_adds_57 ?_
  obtain ⟨a, ha, ea⟩ : ∃ a, a < 10 ∧ y / 2 ^ 15 % 10 = a := ⟨_, by omega, rfl⟩
  rw [ea]
  refine x_callV hO (kc_addRule U M h hr (nI v) (nI m) (nI k) (nI a)) dL_adds_58 lkL_56 fX3_addRule vX3_addRule (by decide) rfl rfl rfl rfl rfl (by decide) (Nat.le_of_ble_eq_true rfl) (fun r M1 p1 => ?_)
  obtain ⟨rfl, h1, -⟩ := p1
  rw [o_addRule_at s hv hm hk ha] at h1 ⊢
  by_cases q : aCnt s.1.1 = 32
  · rw [if_pos q] at h1 ⊢
    rw [if_pos q, q]
    refine x_istore (n := 7) hO dL_adds_61 rfl (by decide) hN ?_
    refine x_iload_n hO dL_adds_63 rfl rfl ?_
    refine x_bipush (v := nI 32) hO dL_adds_64 rfl ?_
    refine x_icmp_ne (tgt := 91) hO dL_adds_66 (by decide) (fun c => absurd rfl c) (fun _ => ?_)
    refine x_iload hO dL_adds_69 rfl ?_
    refine x_bipush (v := (-3 : Int32)) hO dL_adds_71 rfl ?_
    refine x_icmp_ne (tgt := 88) hO dL_adds_73 (by decide) (fun c => absurd rfl c) (fun _ => ?_)
    refine x_iload hO dL_adds_76 rfl ?_
    refine x_bipush (v := (-3 : Int32)) hO dL_adds_78 rfl ?_
    refine x_icmp_ne (tgt := 88) hO dL_adds_80 (by decide) (fun c => absurd rfl c) (fun _ => ?_)
    refine x_bipush (v := (-3 : Int32)) hO dL_adds_83 rfl ?_
    refine x_goto (tgt := 90) hO dL_adds_85 (by decide) ?_
    refine x_iret hO hR dL_adds_90 rfl ?_
    exact Or.inl ⟨h1, by decide, by decide⟩
  · rw [if_neg q] at h1 ⊢
    rw [if_neg q]
    have ho := oM_lt w (by omega) (nI k)
    obtain ⟨g1, c1, c2, c3, c4⟩ := wg_addS g hB (by omega) hv hm hk ha
    have t4 : q_total (oCur (oRec s) (addS s.1 (nI v) (nI m) (nI k) (nI a))) (nI 4) = s.1.2 2 + nI (oM s.1.1 (nI k)) := rfl
    have t2 : q_total (oCur (oRec s) (addS s.1 (nI v) (nI m) (nI k) (nI a))) (nI 2) = s.1.2 1 + nI 1 := rfl
    have t0 : q_total (oCur (oRec s) (addS s.1 (nI v) (nI m) (nI k) (nI a))) (nI 0) = nI (aCnt s.1.1 + 1) := by
      rw [q_total_0]
      exact congrArg nI c1
    have tp : q_parts (oCur (oRec s) (addS s.1 (nI v) (nI m) (nI k) (nI a))).1.1 (s.1.2 1) = nI 1 := by
      show q_parts (addS s.1 (nI v) (nI m) (nI k) (nI a)).1 (s.1.2 1) = nI 1
      unfold q_parts
      rw [c2]
      rfl
    have tk : q_of (oCur (oRec s) (addS s.1 (nI v) (nI m) (nI k) (nI a))).1.1 4 (s.1.2 1) = nI k := c3
    have th : q_of (oCur (oRec s) (addS s.1 (nI v) (nI m) (nI k) (nI a))).1.1 6 (s.1.2 1) = 0 := c4
    generalize addS s.1 (nI v) (nI m) (nI k) (nI a) = z at *
    rw [e0] at t2 tp tk th ⊢
    refine x_istore (n := 7) hO dL_adds_61 rfl (by decide) hN ?_
    refine x_iload_n hO dL_adds_63 rfl rfl ?_
    refine x_bipush (v := nI 32) hO dL_adds_64 rfl ?_
    refine x_icmp_ne (tgt := 91) hO dL_adds_66 (by decide) (fun _ => ?_) (fun c => absurd c (fun z => q ((nI_eq (by omega) (by decide)).mp z)))
    refine x_iload hO dL_adds_91 rfl ?_
    refine x_if_lt (tgt := 173) hO dL_adds_93 (by decide) (fun c => absurd c (nI_pos (by omega))) (fun _ => ?_)
    refine x_iload hO dL_adds_96 rfl ?_
    refine x_bipush (v := nI 32) hO dL_adds_98 rfl ?_
    refine x_icmp_ge (tgt := 173) hO dL_adds_100 (by decide) (fun c => absurd c (nI_ge ho (by decide))) (fun _ => ?_)
    refine x_aload_n hO dL_adds_103 rfl rfl ?_
    refine x_iconst (v := nI 4) hO dL_adds_104 rfl ?_
    refine x_callV1 hO (kc_total U M1 h1 (nI 4)) dL_adds_105 lkL_13 fX3_total vX3_total (by decide) rfl rfl rfl rfl rfl (by decide) (Nat.le_of_ble_eq_true rfl) ?_
    rw [t4]
    refine x_iload hO dL_adds_108 rfl ?_
    refine x_iload hO dL_adds_110 rfl ?_
    refine x_iadd hO dL_adds_112 ?_
    refine x_icmp_ne (tgt := 173) hO dL_adds_113 (by decide) (fun c => absurd rfl c) (fun _ => ?_)
    refine x_aload_n hO dL_adds_116 rfl rfl ?_
    refine x_iconst (v := nI 0) hO dL_adds_117 rfl ?_
    refine x_callV1 hO (kc_total U M1 h1 (nI 0)) dL_adds_118 lkL_13 fX3_total vX3_total (by decide) rfl rfl rfl rfl rfl (by decide) (Nat.le_of_ble_eq_true rfl) ?_
    rw [t0]
    refine x_iload_n hO dL_adds_121 rfl rfl ?_
    refine x_iconst (v := nI 1) hO dL_adds_122 rfl ?_
    refine x_iadd hO dL_adds_123 ?_
    rw [nI_add]
    refine x_icmp_ne (tgt := 173) hO dL_adds_124 (by decide) (fun c => absurd rfl c) (fun _ => ?_)
    refine x_iload hO dL_adds_127 rfl ?_
    refine x_aload_n hO dL_adds_129 rfl rfl ?_
    refine x_iconst (v := nI 2) hO dL_adds_130 rfl ?_
    refine x_callV1 hO (kc_total U M1 h1 (nI 2)) dL_adds_131 lkL_13 fX3_total vX3_total (by decide) rfl rfl rfl rfl rfl (by decide) (Nat.le_of_ble_eq_true rfl) ?_
    rw [t2]
    refine x_iconst (v := nI 1) hO dL_adds_134 rfl ?_
    refine x_isub hO dL_adds_135 ?_
    rw [nI_add, nI_sub1]
    refine x_icmp_ne (tgt := 173) hO dL_adds_136 (by decide) (fun c => absurd rfl c) (fun _ => ?_)
    refine x_aload_n hO dL_adds_139 rfl rfl ?_
    refine x_iload hO dL_adds_140 rfl ?_
    refine x_callV1 hO (kc_parts U M1 h1 (nI a0)) dL_adds_142 lkL_38 fX3_parts vX3_parts (by decide) rfl rfl rfl rfl rfl (by decide) (Nat.le_of_ble_eq_true rfl) ?_
    rw [tp]
    refine x_iconst (v := nI 1) hO dL_adds_145 rfl ?_
    refine x_icmp_ne (tgt := 173) hO dL_adds_146 (by decide) (fun c => absurd rfl c) (fun _ => ?_)
    refine x_aload_n hO dL_adds_149 rfl rfl ?_
    refine x_iload hO dL_adds_150 rfl ?_
    refine x_callV1 hO (kc_rank U M1 h1 (nI a0)) dL_adds_152 lkL_32 fX3_rank vX3_rank (by decide) rfl rfl rfl rfl rfl (by decide) (Nat.le_of_ble_eq_true rfl) ?_
    rw [tk]
    refine x_iload_n hO dL_adds_155 rfl rfl ?_
    refine x_icmp_ne (tgt := 173) hO dL_adds_156 (by decide) (fun c => absurd rfl c) (fun _ => ?_)
    refine x_aload_n hO dL_adds_159 rfl rfl ?_
    refine x_iload hO dL_adds_160 rfl ?_
    refine x_callV1 hO (kc_hits U M1 h1 (nI a0)) dL_adds_162 lkL_35 fX3_hits vX3_hits (by decide) rfl rfl rfl rfl rfl (by decide) (Nat.le_of_ble_eq_true rfl) ?_
    rw [th]
    refine x_if_ne (tgt := 173) hO dL_adds_165 (by decide) (fun c => absurd (rfl) c) (fun _ => ?_)
    refine x_iload hO dL_adds_168 rfl ?_
    refine x_goto (tgt := 175) hO dL_adds_170 (by decide) ?_
    refine x_iret hO hR dL_adds_175 rfl ?_
    exact Or.inr ⟨nI_pos (by omega), z, h1, g1⟩
