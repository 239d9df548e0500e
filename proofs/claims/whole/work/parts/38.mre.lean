/-! ===== compact and spread ===== -/
theorem m_target (U : xP) (M : xM) {p n : Nat} (hp : p < 32) (hn : 0 < n) (hn2 : n ≤ 32) (b : Bool) : xMetI U mX4_target [.inl (nI p), .inl (nI n), .inl (bI b)] M (fun r M' => r = nI (aTg (if b then n else 32) p) ∧ M' = M) := by
  refine xMetI.of (ty := .int) (L := [some (.inl (nI p)), some (.inl (nI n)), some (.inl (bI b))]) fX4_target rfl rfl (Nat.le_of_ble_eq_true rfl) (fun G hN hO hR => ?_)
  have hN : G.2.2.2.2.2.2.2.2.2.2.1 = 3 := hN
  have hO : xOK U G RX4 cX4_target 0 := hO
  unfold aTg at hR
  have q0 : ¬ nI n = 0 := fun z => by have := (nI_eq (b := 0) (by omega) (by decide)).mp z; omega
  refine x_iload_n hO dX4_target_0 rfl rfl ?_
  refine x_if_eq (tgt := 13) hO dX4_target_1 (by decide) (fun c => ?_) (fun c => ?_)
  · refine x_iload_n hO dX4_target_13 rfl rfl ?_
    refine x_iret hO hR dX4_target_14 rfl ?_
    rw [bI_0 c]
    refine ⟨?_, rfl⟩
    show nI p = nI (if (32 : Nat) = 0 then p else 32 * p / 32)
    rw [if_neg (by decide), Nat.mul_div_cancel_left p (by decide)]
  · refine x_bipush (v := nI 32) hO dX4_target_4 rfl ?_
    refine x_iload_n hO dX4_target_6 rfl rfl ?_
    refine x_imul hO dX4_target_7 ?_
    refine x_iload_n hO dX4_target_8 rfl rfl ?_
    refine x_idiv hO dX4_target_9 (q0) ?_
    rw [pk_mul, pk_div (by omega) (by omega) (by omega)]
    refine x_goto (tgt := 14) hO dX4_target_10 (by decide) ?_
    refine x_iret hO hR dX4_target_14 rfl ?_
    rw [bI_1 c]
    refine ⟨?_, rfl⟩
    show nI (32 * p / n) = nI (if n = 0 then p else 32 * p / n)
    rw [if_neg (by omega)]
/-- the first c entries, in the first slots of n shares -/
def aSc (A : aR) (n c : Nat) : aR := fun s => if nF (fun p => aTg n p == s) 0 c < c then A (kth A (nF (fun p => aTg n p == s) 0 c)) else eR
theorem aSc_0 (A : aR) (n : Nat) : aSc A n 0 = fun _ => eR := by
  funext s
  unfold aSc
  rw [if_neg (by omega)]
theorem aSc_s (A : aR) {n : Nat} (hn : n ≤ 32) (c : Nat) : aSc A n (c + 1) = fun s => if s = aTg n c then A (kth A c) else aSc A n c s := by
  funext s
  by_cases e : s = aTg n c
  · subst e
    have e2 : nF (fun q => aTg n q == aTg n c) 0 (c + 1) = c := nF_eq (Nat.zero_le _) (by omega) (fun j _ hj => by
      have : ¬ aTg n j = aTg n c := fun z => by have := aTg_inj hn z; omega
      simpa using this) (fun _ => by simp)
    rw [if_pos rfl]
    unfold aSc
    rw [e2, if_pos (by omega)]
  · rw [if_neg e]
    have l := (nF_le (P := fun q => aTg n q == s) c 0).2
    have e2 : nF (fun q => aTg n q == s) 0 c < c → nF (fun q => aTg n q == s) 0 (c + 1) = nF (fun q => aTg n q == s) 0 c := fun h => nF_eq (Nat.zero_le _) (by omega) (fun j a b => nF_no (P := fun q => aTg n q == s) c 0 j a b) (fun _ => nF_yes (P := fun q => aTg n q == s) c 0 (by omega))
    have e3 : ¬ nF (fun q => aTg n q == s) 0 c < c → nF (fun q => aTg n q == s) 0 (c + 1) = c + 1 := fun h => nF_eq (Nat.zero_le _) (by omega) (fun j a b => by
      by_cases z : j = c
      · subst z
        simpa using fun z => e z.symm
      · exact nF_no (P := fun q => aTg n q == s) c 0 j a (by omega)) (fun z => by omega)
    unfold aSc
    by_cases h : nF (fun q => aTg n q == s) 0 c < c
    · rw [e2 h, if_pos h, if_pos (by omega)]
    · rw [e3 h, if_neg h, if_neg (by omega)]
theorem cpy_nA {M : xM} {i t : Nat} (hi : i < 32) (ht : t < 32) : mSm M (cpy M 11 (7 * i) 10 (7 * t) 7) (fun s => if s = t then mA M 11 0 i else nA M s) (nG M) := by
  refine ⟨mA_ext (fun s hs => ?_) (fun s hs => ?_), fun j hj => ?_, fun k hk => cpy_ot hk⟩
  · split
    · rename_i e
      subst e
      refine mA_row hs hi (fun w hw => ?_)
      have := cpy_in (M := M) (c := 11) (o := 7 * i) (c' := 10) (o' := 7 * s) (k := 7) hw
      simpa using this
    · rename_i e
      refine mA_row hs hs (fun w hw => ?_)
      exact cpy_out (by omega)
  · rw [if_neg (by omega)]
    exact mA_ge hs
  · rw [cpy_out (by omega), nG_at M hj]
theorem km_rearrange (U : xP) (M : xM) {s : aO} (h : RM M s) (b : Bool) : xMetI U mX4_rearrange [.inr 9, .inl (bI b)] M (poM M (o_re s (if b then aCnt s.1.1 else 32))) := by
  refine xMetI.of (ty := .int) (L := [some (.inr 9), some (.inl (bI b)), none, none, none, none, none, none]) fX4_rearrange rfl rfl (Nat.le_of_ble_eq_true rfl) (fun G hN hO hR => ?_)
  have hN : G.2.2.2.2.2.2.2.2.2.2.1 = 8 := hN
  have hO : xOK U G RX4 cX4_rearrange 2 := hO
  unfold o_re at hR
  have hcnt := aCnt_le s.1.1
  have hn : (if b then aCnt s.1.1 else 32) ≤ 32 := by split <;> omega
  have hcn : aCnt s.1.1 ≤ (if b then aCnt s.1.1 else 32) := by split <;> omega
  have hmono : ∀ i, i ≤ 32 → nC (aoc s.1.1) i ≤ aCnt s.1.1 := fun i hi => nC_mono hi
  have hlt : ∀ i, i < 32 → aoc s.1.1 i = true → nC (aoc s.1.1) i < aCnt s.1.1 := fun i hi e => by
    have := hmono (i + 1) (by omega)
    rw [nC_t e] at this
    omega
  have htl : ∀ p, p < aCnt s.1.1 → aTg (if b then aCnt s.1.1 else 32) p < 32 := fun p hp => aTg_lt (.inl (by omega))
  generalize hN2 : (if b then aCnt s.1.1 else 32) = n at *
  refine x_aload_n hO dX4_rearrange_0 rfl rfl ?_
  refine x_callV1 hO (m_entries U M) dX4_rearrange_1 lkX4_44 fX4_entries vX4_entries (by decide) rfl rfl rfl rfl rfl (by decide) (Nat.le_of_ble_eq_true rfl) ?_
  rw [h.rows]
  refine x_istore_n (n := 8) hO dX4_rearrange_4 rfl rfl (by decide) hN ?_
  refine x_iconst (v := nI 0) hO dX4_rearrange_5 rfl ?_
  refine x_istore_n (n := 8) hO dX4_rearrange_6 rfl rfl (by decide) hN ?_
  refine x_iconst (v := nI 0) hO dX4_rearrange_7 rfl ?_
  refine x_istore (n := 8) hO dX4_rearrange_8 rfl (by decide) hN ?_
  refine x_iconst (v := nI 0) hO dX4_rearrange_10 rfl ?_
  refine x_istore (n := 8) hO dX4_rearrange_11 rfl (by decide) hN ?_
  refine upd_ind (P := fun i _ => XW U G 13 [some (.inr 9), some (.inl (bI b)), some (.inl (nI (aCnt s.1.1))), some (.inl (nI (nC (aoc s.1.1) i))), some (.inl (nI (nC (pOut s.1.1 n) i))), some (.inl (nI i)), none, none] [] M) 32 ?_ ?_ 32 0 rfl
  · have hle := nC_le (pOut s.1.1 n) 32
    generalize nC (pOut s.1.1 n) 32 = v at *
    refine x_iload hO dX4_rearrange_13 rfl ?_
    refine x_bipush (v := nI 32) hO dX4_rearrange_15 rfl ?_
    refine x_icmp_ge (tgt := 59) hO dX4_rearrange_17 (by decide) (fun c1 => ?_) (fun c1 => ?_)
    · refine x_iload hO dX4_rearrange_59 rfl ?_
      refine x_if_ne (tgt := 67) hO dX4_rearrange_61 (by decide) (fun c2 => ?_) (fun c2 => ?_)
      · have q : ¬ v = 0 := fun z => c2 (by rw [z]; rfl)
        rw [if_neg q] at hR
        refine x_aload_n hO dX4_rearrange_67 rfl rfl ?_
        refine x_callVv hO (m_record U M h) dX4_rearrange_68 lkX4_48 fX4_record vX4_record (by decide) rfl rfl rfl rfl rfl (by decide) (Nat.le_of_ble_eq_true rfl) (fun M1 m1 => ?_)
        obtain ⟨r1, f1, -⟩ := m1
        refine x_aload_n hO dX4_rearrange_71 rfl rfl ?_
        refine x_getR (T := TX4) (j := 0) hO dX4_rearrange_72 flX4_7 (by decide) rfl rfl (by decide) rfl rfl ?_
        refine x_iconst (v := nI 0) hO dX4_rearrange_75 rfl ?_
        refine x_aload_n hO dX4_rearrange_76 rfl rfl ?_
        refine x_getR (T := TX4) (j := 1) hO dX4_rearrange_77 flX4_13 (by decide) rfl rfl (by decide) rfl rfl ?_
        refine x_iconst (v := nI 0) hO dX4_rearrange_80 rfl ?_
        refine x_callSv hO (m_copyState U M1 (c := 10) (o := 0) (c' := 11) (o' := 0) (n := 229) (n' := 229) (by decide) (by decide) rfl rfl (by decide) (by decide) (by decide) (by decide) (by decide)) dX4_rearrange_81 lkX4_36 fX4_copyState sX4_copyState rfl rfl (by decide) (Nat.le_of_ble_eq_true rfl) (fun M2 m2 => ?_)
        have e11 : mA M2 11 0 = s.1.1 := by
          have := congrArg Prod.fst (smC_cpy (M := M1) (c := 10) (o := 0) (c' := 11) (o' := 0))
          rw [← m2] at this
          exact this.trans r1.rows
        have e2 : (nA M2, nG M2) = (nA M1, nG M1) := by
          have : ∀ t, M2 10 t = M1 10 t := fun t => by rw [m2, cpy_ot (by decide)]
          rw [← smC_now, ← smC_now]
          exact smC_eq (fun t _ => by rw [this])
        obtain ⟨r2, f2⟩ := r1.mem (M' := M2) (congrArg Prod.fst e2) (congrArg Prod.snd e2) (fun k _ k11 => by rw [m2, cpy_ot k11])
        rw [r1.rows, r1.nums] at r2
        have g2 : nG M2 = s.1.2 := r2.nums
        have a2 : nA M2 = s.1.1 := r2.rows
        refine x_iconst (v := nI 0) hO dX4_rearrange_84 rfl ?_
        refine x_istore (n := 8) hO dX4_rearrange_85 rfl (by decide) hN ?_
        refine upd_ind (P := fun i _ => ∀ M3, mSm M2 M3 (fun t => if t < i then eR else s.1.1 t) (nG M2) → XW U G 87 [some (.inr 9), some (.inl (bI b)), some (.inl (nI (aCnt s.1.1))), some (.inl (nI (nC (aoc s.1.1) 32))), some (.inl (nI v)), some (.inl (nI i)), none, none] [] M3) 32 ?_ ?_ 32 0 rfl M2 ?_
        · intro M3 m3
          refine x_iload hO dX4_rearrange_87 rfl ?_
          refine x_bipush (v := nI 32) hO dX4_rearrange_89 rfl ?_
          refine x_icmp_ge (tgt := 106) hO dX4_rearrange_91 (by decide) (fun c3 => ?_) (fun c3 => ?_)
          · refine x_iconst (v := nI 0) hO dX4_rearrange_106 rfl ?_
            refine x_istore_n (n := 8) hO dX4_rearrange_107 rfl rfl (by decide) hN ?_
            refine x_iconst (v := nI 0) hO dX4_rearrange_108 rfl ?_
            refine x_istore (n := 8) hO dX4_rearrange_109 rfl (by decide) hN ?_
            have e3 : (fun t => if t < 32 then eR else s.1.1 t) = aSc s.1.1 n 0 := by
              rw [aSc_0]
              funext t
              split
              · rfl
              · rw [← a2]
                exact mA_ge (by omega)
            rw [e3] at m3
            refine upd_ind (P := fun i _ => ∀ M4 l6 l7, mSm M2 M4 (aSc s.1.1 n (nC (aoc s.1.1) i)) (nG M2) → XW U G 111 [some (.inr 9), some (.inl (bI b)), some (.inl (nI (aCnt s.1.1))), some (.inl (nI (nC (aoc s.1.1) i))), some (.inl (nI v)), some (.inl (nI i)), l6, l7] [] M4) 32 ?_ ?_ 32 0 rfl M3 none none m3
            · intro M4 l6 l7 m4
              refine x_iload hO dX4_rearrange_111 rfl ?_
              refine x_bipush (v := nI 32) hO dX4_rearrange_113 rfl ?_
              refine x_icmp_ge (tgt := 192) hO dX4_rearrange_115 (by decide) (fun c4 => ?_) (fun c4 => ?_)
              · have l226 : 226 < 229 := by decide
                have e9 : M4 10 226 = s.1.2 2 := by
                  have := m4.2.1 2 (by decide)
                  rw [g2] at this
                  exact this
                refine x_aload_n hO dX4_rearrange_192 rfl rfl ?_
                refine x_getR (T := TX4) (j := 0) hO dX4_rearrange_193 flX4_7 (by decide) rfl rfl (by decide) rfl rfl ?_
                refine x_sipush (v := nI 226) hO dX4_rearrange_196 rfl ?_
                refine x_dup2 hO dX4_rearrange_199 ?_
                refine x_iald hO (by decide) rfl (by decide) (rfl) (l226) dX4_rearrange_200 ?_
                refine x_iload hO dX4_rearrange_201 rfl ?_
                rw [e9]
                refine x_iadd hO dX4_rearrange_203 ?_
                refine x_iast hO (by decide) rfl (by decide) (rfl) (l226) dX4_rearrange_204 ?_
                have m5 := m4.tr (mSm.num (M := M4) (j := 2) (by decide) (s.1.2 2 + nI v))
                obtain ⟨r5, f5⟩ := r2.mSm m5 (upd_z (nG_z M4) (by decide) _)
                refine x_iload hO dX4_rearrange_205 rfl ?_
                refine x_iret hO hR dX4_rearrange_207 rfl ?_
                have e4 : nG M4 = s.1.2 := by
                  rw [← g2]
                  exact nG_eq m4.2.1 (nG_z M2)
                rw [m4.1, e4] at r5
                exact ⟨rfl, r5, (f1.tr f2).tr f5⟩
              · exact absurd (Int32.le_refl _) c4
            · intro i d hd ih M4 l6 l7 m4
              have hi : i < 32 := by omega
              have k11 : M4 11 = M2 11 := m4.2.2 11 (by decide)
              have li : 7 * i < 229 := by omega
              have eo : aoc s.1.1 i = !(M2 11 (7 * i) == 0) := by
                rw [← e11, mA_oc]
                unfold moc
                rw [decide_eq_true hi, Nat.zero_add]
                rfl
              refine x_iload hO dX4_rearrange_111 rfl ?_
              refine x_bipush (v := nI 32) hO dX4_rearrange_113 rfl ?_
              refine x_icmp_ge (tgt := 192) hO dX4_rearrange_115 (by decide) (fun c4 => ?_) (fun c4 => ?_)
              · exact absurd c4 (nI_ge hi (by decide))
              · refine x_aload_n hO dX4_rearrange_118 rfl rfl ?_
                refine x_getR (T := TX4) (j := 1) hO dX4_rearrange_119 flX4_13 (by decide) rfl rfl (by decide) rfl rfl ?_
                refine x_bipush (v := nI 7) hO dX4_rearrange_122 rfl ?_
                refine x_iload hO dX4_rearrange_124 rfl ?_
                refine x_imul hO dX4_rearrange_126 ?_
                rw [pk_mul]
                refine x_iconst (v := nI 0) hO dX4_rearrange_127 rfl ?_
                refine x_iadd hO dX4_rearrange_128 ?_
                rw [nI_z]
                refine x_iald hO (by decide) rfl (by decide) (rfl) (li) dX4_rearrange_129 ?_
                rw [k11]
                refine x_if_eq (tgt := 186) hO dX4_rearrange_130 (by decide) (fun c5 => ?_) (fun c5 => ?_)
                · have e : aoc s.1.1 i = false := by rw [eo, c5]; rfl
                  rw [nC_f e] at ih
                  refine x_iinc hO dX4_rearrange_186 rfl (by first | exact xinc_n _ | rfl) rfl hN ?_
                  refine x_goto (tgt := 111) hO dX4_rearrange_189 (by decide) ?_
                  exact ih M4 _ _ m4
                · have e : aoc s.1.1 i = true := by
                    rw [eo]
                    simp only [beq_eq_false_iff_ne.mpr c5, Bool.not_false]
                  have hc := hlt i hi e
                  have ht := htl _ hc
                  rw [nC_t e] at ih
                  refine x_iload_n hO dX4_rearrange_133 rfl rfl ?_
                  refine x_iload_n hO dX4_rearrange_134 rfl rfl ?_
                  refine x_iload_n hO dX4_rearrange_135 rfl rfl ?_
                  refine x_callS1 hO (m_target U M4 (p := nC (aoc s.1.1) i) (n := aCnt s.1.1) (by omega) (by omega) hcnt b) dX4_rearrange_136 lkX4_119 fX4_target sX4_target rfl rfl (by decide) (Nat.le_of_ble_eq_true rfl) ?_
                  rw [hN2]
                  generalize ht3 : aTg n (nC (aoc s.1.1) i) = t at *
                  refine x_istore (n := 8) hO dX4_rearrange_139 rfl (by decide) hN ?_
                  refine x_iconst (v := nI 0) hO dX4_rearrange_141 rfl ?_
                  refine x_istore (n := 8) hO dX4_rearrange_142 rfl (by decide) hN ?_
                  have m5 := m4.tr (cpy_nA (M := M4) hi ht)
                  have e5 : (fun x => if x = t then mA M4 11 0 i else nA M4 x) = aSc s.1.1 n (nC (aoc s.1.1) i + 1) := by
                    rw [aSc_s s.1.1 hn, ht3, kth_at hi e, m4.1]
                    have : mA M4 11 0 i = s.1.1 i := by
                      rw [← e11]
                      exact mA_row hi hi (fun w _ => by rw [k11])
                    rw [this]
                  rw [e5] at m5
                  have m5 := m5.gc (g'' := nG M2) (fun j hj => by rw [nG_at M4 hj, m4.2.1 j hj])
                  have e0 : cpy M4 11 (7 * i) 10 (7 * t) 0 = M4 := by funext a t; unfold cpy; rw [if_neg (by omega)]
                  have h0 := upd_ind (P := fun k _ => XW U G 144 [some (.inr 9), some (.inl (bI b)), some (.inl (nI (aCnt s.1.1))), some (.inl (nI (nC (aoc s.1.1) i))), some (.inl (nI v)), some (.inl (nI i)), some (.inl (nI t)), some (.inl (nI k))] [] (cpy M4 11 (7 * i) 10 (7 * t) k)) 7 ?_ ?_ 7 0 rfl
                  · rw [e0] at h0
                    exact h0
                  · refine x_iload hO dX4_rearrange_144 rfl ?_
                    refine x_bipush (v := nI 7) hO dX4_rearrange_146 rfl ?_
                    refine x_icmp_ge (tgt := 183) hO dX4_rearrange_148 (by decide) (fun c6 => ?_) (fun c6 => ?_)
                    · refine x_iinc hO dX4_rearrange_183 rfl (by first | exact xinc_n _ | rfl) rfl hN ?_
                      refine x_iinc hO dX4_rearrange_186 rfl (by first | exact xinc_n _ | rfl) rfl hN ?_
                      refine x_goto (tgt := 111) hO dX4_rearrange_189 (by decide) ?_
                      exact ih _ _ _ m5
                    · exact absurd (Int32.le_refl _) c6
                  · intro k d2 hd2 ih2
                    have l1 : 7 * i + k < 229 := by omega
                    have l2 : 7 * t + k < 229 := by omega
                    refine x_iload hO dX4_rearrange_144 rfl ?_
                    refine x_bipush (v := nI 7) hO dX4_rearrange_146 rfl ?_
                    refine x_icmp_ge (tgt := 183) hO dX4_rearrange_148 (by decide) (fun c6 => ?_) (fun c6 => ?_)
                    · exact absurd c6 (nI_ge (by omega) (by decide))
                    · refine x_aload_n hO dX4_rearrange_151 rfl rfl ?_
                      refine x_getR (T := TX4) (j := 0) hO dX4_rearrange_152 flX4_7 (by decide) rfl rfl (by decide) rfl rfl ?_
                      refine x_bipush (v := nI 7) hO dX4_rearrange_155 rfl ?_
                      refine x_iload hO dX4_rearrange_157 rfl ?_
                      refine x_imul hO dX4_rearrange_159 ?_
                      rw [pk_mul]
                      refine x_iload hO dX4_rearrange_160 rfl ?_
                      refine x_iadd hO dX4_rearrange_162 ?_
                      rw [nI_add]
                      refine x_aload_n hO dX4_rearrange_163 rfl rfl ?_
                      refine x_getR (T := TX4) (j := 1) hO dX4_rearrange_164 flX4_13 (by decide) rfl rfl (by decide) rfl rfl ?_
                      refine x_bipush (v := nI 7) hO dX4_rearrange_167 rfl ?_
                      refine x_iload hO dX4_rearrange_169 rfl ?_
                      refine x_imul hO dX4_rearrange_171 ?_
                      rw [pk_mul]
                      refine x_iload hO dX4_rearrange_172 rfl ?_
                      refine x_iadd hO dX4_rearrange_174 ?_
                      rw [nI_add]
                      refine x_iald hO (by decide) rfl (by decide) (rfl) (l1) dX4_rearrange_175 ?_
                      rw [cpy_rd (by decide)]
                      refine x_iast hO (by decide) rfl (by decide) (rfl) (l2) dX4_rearrange_176 ?_
                      rw [cpy_s]
                      refine x_iinc hO dX4_rearrange_177 rfl (by first | exact xinc_n _ | rfl) rfl hN ?_
                      refine x_goto (tgt := 144) hO dX4_rearrange_180 (by decide) ?_
                      exact ih2
          · exact absurd (Int32.le_refl _) c3
        · intro i d hd ih M3 m3
          have hi : i < 32 := by omega
          refine x_iload hO dX4_rearrange_87 rfl ?_
          refine x_bipush (v := nI 32) hO dX4_rearrange_89 rfl ?_
          refine x_icmp_ge (tgt := 106) hO dX4_rearrange_91 (by decide) (fun c3 => ?_) (fun c3 => ?_)
          · exact absurd c3 (nI_ge hi (by decide))
          · refine x_aload_n hO dX4_rearrange_94 rfl rfl ?_
            refine x_iload hO dX4_rearrange_95 rfl ?_
            refine x_callVv hO (m_clearSlot U M3 hi) dX4_rearrange_97 lkX4_115 fX4_clearSlot vX4_clearSlot (by decide) rfl rfl rfl rfl rfl (by decide) (Nat.le_of_ble_eq_true rfl) (fun M4 m4 => ?_)
            have m5 := m3.tr m4
            refine x_iinc hO dX4_rearrange_100 rfl (by first | exact xinc_n _ | rfl) rfl hN ?_
            refine x_goto (tgt := 87) hO dX4_rearrange_103 (by decide) ?_
            refine ih M4 ?_
            have e5 : (fun t => if t = i then eR else nA M3 t) = (fun t => if t < i + 1 then eR else s.1.1 t) := by
              funext t
              rw [m3.1]
              by_cases y : t = i
              · subst y
                rw [if_pos rfl, if_pos (by omega)]
              · have : t < i + 1 ↔ t < i := by omega
                rw [if_neg y]
                simp only [this]
            rw [e5] at m5
            exact m5.gc (fun j hj => m3.g hj)
        · have e : (fun t => if t < 0 then eR else s.1.1 t) = nA M2 := by
            rw [a2]
            funext t
            exact if_neg (by omega)
          rw [e]
          exact mSm.rf M2
      · have q : v = 0 := by
          have : nI v = nI 0 := c2
          exact (nI_eq (b := 0) (by omega) (by decide)).mp this
        rw [if_pos q] at hR
        refine x_bipush (v := (-4 : Int32)) hO dX4_rearrange_64 rfl ?_
        refine x_iret hO hR dX4_rearrange_66 rfl ?_
        exact ⟨rfl, h, frM.rf M⟩
    · exact absurd (Int32.le_refl _) c1
  · intro i d hd ih
    have hi : i < 32 := by omega
    refine x_iload hO dX4_rearrange_13 rfl ?_
    refine x_bipush (v := nI 32) hO dX4_rearrange_15 rfl ?_
    refine x_icmp_ge (tgt := 59) hO dX4_rearrange_17 (by decide) (fun c1 => ?_) (fun c1 => ?_)
    · exact absurd c1 (nI_ge hi (by decide))
    · refine x_aload_n hO dX4_rearrange_20 rfl rfl ?_
      refine x_iload hO dX4_rearrange_21 rfl ?_
      refine x_callV1 hO (m_isFree U M hi) dX4_rearrange_23 lkX4_51 fX4_isFree vX4_isFree (by decide) rfl rfl rfl rfl rfl (by decide) (Nat.le_of_ble_eq_true rfl) ?_
      rw [h.rows]
      refine x_if_ne (tgt := 53) hO dX4_rearrange_26 (by decide) (fun c2 => ?_) (fun c2 => ?_)
      · have e : aoc s.1.1 i = false := by simpa using bI_1 c2
        rw [nC_f e, nC_f (P := pOut s.1.1 n) (by simp [pOut, e])] at ih
        refine x_iinc hO dX4_rearrange_53 rfl (by first | exact xinc_n _ | rfl) rfl hN ?_
        refine x_goto (tgt := 13) hO dX4_rearrange_56 (by decide) ?_
        exact ih
      · have e : aoc s.1.1 i = true := by simpa using bI_0 c2
        have hc := hlt i hi e
        have ht := htl _ hc
        rw [nC_t e] at ih
        refine x_iload hO dX4_rearrange_29 rfl ?_
        refine x_iload_n hO dX4_rearrange_31 rfl rfl ?_
        refine x_iload_n hO dX4_rearrange_32 rfl rfl ?_
        refine x_iload_n hO dX4_rearrange_33 rfl rfl ?_
        refine x_callS1 hO (m_target U M (p := nC (aoc s.1.1) i) (n := aCnt s.1.1) (by omega) (by omega) hcnt b) dX4_rearrange_34 lkX4_119 fX4_target sX4_target rfl rfl (by decide) (Nat.le_of_ble_eq_true rfl) ?_
        rw [hN2]
        refine x_iload hO dX4_rearrange_37 rfl ?_
        refine x_icmp_ne (tgt := 46) hO dX4_rearrange_39 (by decide) (fun c3 => ?_) (fun c3 => ?_)
        · have q : pOut s.1.1 n i = true := by
            unfold pOut
            rw [e, Bool.true_and]
            have : ¬ i = aTg n (nC (aoc s.1.1) i) := fun z => c3 (by rw [← z])
            simpa using this
          rw [nC_t q] at ih
          refine x_iconst (v := nI 1) hO dX4_rearrange_46 rfl ?_
          refine x_iadd hO dX4_rearrange_47 ?_
          rw [nI_1c]
          refine x_istore (n := 8) hO dX4_rearrange_48 rfl (by decide) hN ?_
          refine x_iinc hO dX4_rearrange_50 rfl (by first | exact xinc_n _ | rfl) rfl hN ?_
          refine x_iinc hO dX4_rearrange_53 rfl (by first | exact xinc_n _ | rfl) rfl hN ?_
          refine x_goto (tgt := 13) hO dX4_rearrange_56 (by decide) ?_
          exact ih
        · have q : pOut s.1.1 n i = false := by
            unfold pOut
            have := (nI_eq (by omega) (by omega)).mp c3
            simp [this]
          rw [nC_f q] at ih
          refine x_iconst (v := nI 0) hO dX4_rearrange_42 rfl ?_
          refine x_goto (tgt := 47) hO dX4_rearrange_43 (by decide) ?_
          refine x_iadd hO dX4_rearrange_47 ?_
          rw [nI_z]
          refine x_istore (n := 8) hO dX4_rearrange_48 rfl (by decide) hN ?_
          refine x_iinc hO dX4_rearrange_50 rfl (by first | exact xinc_n _ | rfl) rfl hN ?_
          refine x_iinc hO dX4_rearrange_53 rfl (by first | exact xinc_n _ | rfl) rfl hN ?_
          refine x_goto (tgt := 13) hO dX4_rearrange_56 (by decide) ?_
          exact ih
theorem km_compact (U : xP) (M : xM) {s : aO} (h : RM M s) : xMetI U mX4_compact [.inr 9] M (poM M (o_re s 32)) := by
  refine xMetI.of (ty := .int) (L := [some (.inr 9)]) fX4_compact rfl rfl (Nat.le_of_ble_eq_true rfl) (fun G hN hO hR => ?_)
  have hN : G.2.2.2.2.2.2.2.2.2.2.1 = 1 := hN
  have hO : xOK U G RX4 cX4_compact 3 := hO
  refine x_aload_n hO dX4_compact_0 rfl rfl ?_
  refine x_iconst (v := nI 0) hO dX4_compact_1 rfl ?_
  refine x_callV hO (km_rearrange U M h false) dX4_compact_2 lkX4_123 fX4_rearrange vX4_rearrange (by decide) rfl rfl rfl rfl rfl (by decide) (Nat.le_of_ble_eq_true rfl) (fun r M1 m1 => ?_)
  obtain ⟨e1, r1⟩ := m1
  rw [e1]
  refine x_iret hO hR dX4_compact_5 rfl ?_
  exact ⟨rfl, r1⟩
theorem km_spread (U : xP) (M : xM) {s : aO} (h : RM M s) : xMetI U mX4_spread [.inr 9] M (poM M (o_re s (aCnt s.1.1))) := by
  refine xMetI.of (ty := .int) (L := [some (.inr 9)]) fX4_spread rfl rfl (Nat.le_of_ble_eq_true rfl) (fun G hN hO hR => ?_)
  have hN : G.2.2.2.2.2.2.2.2.2.2.1 = 1 := hN
  have hO : xOK U G RX4 cX4_spread 3 := hO
  refine x_aload_n hO dX4_spread_0 rfl rfl ?_
  refine x_iconst (v := nI 1) hO dX4_spread_1 rfl ?_
  refine x_callV hO (km_rearrange U M h true) dX4_spread_2 lkX4_123 fX4_rearrange vX4_rearrange (by decide) rfl rfl rfl rfl rfl (by decide) (Nat.le_of_ble_eq_true rfl) (fun r M1 m1 => ?_)
  obtain ⟨e1, r1⟩ := m1
  rw [e1]
  refine x_iret hO hR dX4_spread_5 rfl ?_
  exact ⟨rfl, r1⟩
