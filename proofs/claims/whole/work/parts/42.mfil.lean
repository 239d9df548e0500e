/-! ===== the banks' filters ===== -/
theorem bitAt : ∀ n, n < 256 → ∀ b, b < 8 → (nI n >>> (nI b &&& 31)) &&& nI 1 = bI (n.testBit b) := by decide +kernel
theorem nI_xor {a b : Nat} (ha : a < 2 ^ 32) (hb : b < 2 ^ 32) : nI a ^^^ nI b = nI (a ^^^ b) := by
  apply Int32.toBitVec_inj.mp
  apply BitVec.eq_of_toNat_eq
  rw [Int32.toBitVec_xor, BitVec.toNat_xor, pk_tn ha, pk_tn hb, pk_tn (Nat.xor_lt_two_pow ha hb)]
def mB (A : aR) (s t : Nat) : Bool := (A s 2).toNatClampNeg.testBit t
def vB (A : aR) (s t : Nat) : Bool := (A s 3).toNatClampNeg.testBit t
def fOne (A : aR) (b t k : Nat) : Bool := aoc A (b * 8 + k) && (mB A (b * 8 + k) t && vB A (b * 8 + k) t)
def fZero (A : aR) (b t k : Nat) : Bool := aoc A (b * 8 + k) && (mB A (b * 8 + k) t && !vB A (b * 8 + k) t)
def fBit (A : aR) (b : Nat) (iv : Bool) (t : Nat) : Bool := decide (nC (fOne A b t) 8 = aBank A b) || (!iv && decide (nC (fZero A b t) 8 = aBank A b))
/-- the bits that hold, as a number -/
def fR (P : Nat → Bool) : Nat → Nat
  | 0 => 0
  | i + 1 => if P i then fR P i ||| 2 ^ i else fR P i
theorem fR_lt (P : Nat → Bool) : ∀ n, fR P n < 2 ^ n
  | 0 => by simp [fR]
  | n + 1 => by
    have h := fR_lt P n
    have h2 : (2 : Nat) ^ n < 2 ^ (n + 1) := Nat.pow_lt_pow_right (by decide) (by omega)
    simp only [fR]
    split
    · exact Nat.or_lt_two_pow (Nat.lt_trans h h2) h2
    · omega
theorem fR_bit (P : Nat → Bool) (i : Nat) : ∀ n, (fR P n).testBit i = (decide (i < n) && P i)
  | 0 => by simp [fR]
  | n + 1 => by
    have h := fR_bit P i n
    simp only [fR]
    by_cases e : i = n
    · subst e
      have z : (fR P i).testBit i = false := Nat.testBit_lt_two_pow (fR_lt P i)
      split
      · rename_i q
        rw [Nat.testBit_or, z, Nat.testBit_two_pow_self, q]
        simp
      · rename_i q
        rw [z]
        simp [q]
    · have q : (i < n + 1) ↔ i < n := by omega
      simp only [q]
      split
      · rw [Nat.testBit_or, h, Nat.testBit_two_pow_of_ne (by omega), Bool.or_false]
      · exact h
theorem m_filter0 (U : xP) (M : xM) {a : Nat} (w : wfA (nA M) a) {b : Nat} (hb : b < 4) (iv : Bool) : xMetI U mX4_filter [.inr 9, .inl (nI b), .inl (bI iv)] M (fun r M' => r = nI (if aBank (nA M) b = 0 then 0 else fR (fBit (nA M) b iv) 8) ∧ M' = M) := by
  refine xMetI.of (ty := .int) (L := [some (.inr 9), some (.inl (nI b)), some (.inl (bI iv)), none, none, none, none, none, none, none, none]) fX4_filter rfl rfl (Nat.le_of_ble_eq_true rfl) (fun G hN hO hR => ?_)
  have hN : G.2.2.2.2.2.2.2.2.2.2.1 = 11 := hN
  have hO : xOK U G RX4 cX4_filter 2 := hO
  have hbk : aBank (nA M) b ≤ 8 := nC_le _ 8
  refine x_aload_n hO dX4_filter_0 rfl rfl ?_
  refine x_iload_n hO dX4_filter_1 rfl rfl ?_
  refine x_callV1 hO (m_entriesIn U M hb) dX4_filter_2 lkX4_130 fX4_entriesIn vX4_entriesIn (by decide) rfl rfl rfl rfl rfl (by decide) (Nat.le_of_ble_eq_true rfl) ?_
  refine x_istore_n (n := 11) hO dX4_filter_5 rfl rfl (by decide) hN ?_
  refine x_iconst (v := nI 0) hO dX4_filter_6 rfl ?_
  refine x_istore (n := 11) hO dX4_filter_7 rfl (by decide) hN ?_
  refine x_iconst (v := nI 0) hO dX4_filter_9 rfl ?_
  refine x_istore (n := 11) hO dX4_filter_10 rfl (by decide) hN ?_
  by_cases hz : aBank (nA M) b = 0
  · rw [if_pos hz] at hR
    rw [hz]
    refine x_iload hO dX4_filter_12 rfl ?_
    refine x_bipush (v := nI 8) hO dX4_filter_14 rfl ?_
    refine x_icmp_ge (tgt := 183) hO dX4_filter_16 (by decide) (fun c => ?_) (fun c => ?_)
    · exact absurd c (by decide)
    · refine x_iload_n hO dX4_filter_19 rfl rfl ?_
      refine x_if_le (tgt := 183) hO dX4_filter_20 (by decide) (fun c2 => ?_) (fun c2 => ?_)
      · refine x_iload hO dX4_filter_183 rfl ?_
        refine x_iret hO hR dX4_filter_185 rfl ?_
        exact ⟨rfl, rfl⟩
      · exact absurd (Int32.le_refl _) c2
  · rw [if_neg hz] at hR
    refine upd_ind (P := fun t _ => ∀ l6 l7 l8 l9 l10, XW U G 12 [some (.inr 9), some (.inl (nI b)), some (.inl (bI iv)), some (.inl (nI (aBank (nA M) b))), some (.inl (nI (fR (fBit (nA M) b iv) t))), some (.inl (nI t)), l6, l7, l8, l9, l10] [] M) 8 ?_ ?_ 8 0 rfl _ _ _ _ _
    · intro l6 l7 l8 l9 l10
      refine x_iload hO dX4_filter_12 rfl ?_
      refine x_bipush (v := nI 8) hO dX4_filter_14 rfl ?_
      refine x_icmp_ge (tgt := 183) hO dX4_filter_16 (by decide) (fun c => ?_) (fun c => ?_)
      · refine x_iload hO dX4_filter_183 rfl ?_
        refine x_iret hO hR dX4_filter_185 rfl ?_
        exact ⟨rfl, rfl⟩
      · exact absurd (Int32.le_refl _) c
    · intro t d hd ih l6 l7 l8 l9 l10
      have ht : t < 8 := by omega
      refine x_iload hO dX4_filter_12 rfl ?_
      refine x_bipush (v := nI 8) hO dX4_filter_14 rfl ?_
      refine x_icmp_ge (tgt := 183) hO dX4_filter_16 (by decide) (fun c => ?_) (fun c => ?_)
      · exact absurd c (nI_ge ht (by decide))
      · refine x_iload_n hO dX4_filter_19 rfl rfl ?_
        refine x_if_le (tgt := 183) hO dX4_filter_20 (by decide) (fun c2 => ?_) (fun c2 => ?_)
        · exact absurd ((nI_leI (b := 0) (by omega) (by decide)).mp c2) (by omega)
        · refine x_iconst (v := nI 0) hO dX4_filter_23 rfl ?_
          refine x_istore (n := 11) hO dX4_filter_24 rfl (by decide) hN ?_
          refine x_iconst (v := nI 0) hO dX4_filter_26 rfl ?_
          refine x_istore (n := 11) hO dX4_filter_27 rfl (by decide) hN ?_
          refine x_bipush (v := nI 8) hO dX4_filter_29 rfl ?_
          refine x_iload_n hO dX4_filter_31 rfl rfl ?_
          refine x_imul hO dX4_filter_32 ?_
          rw [pk_mul, Nat.mul_comm 8 b]
          refine x_istore (n := 11) hO dX4_filter_33 rfl (by decide) hN ?_
          refine upd_ind (P := fun k _ => ∀ l9 l10, XW U G 35 [some (.inr 9), some (.inl (nI b)), some (.inl (bI iv)), some (.inl (nI (aBank (nA M) b))), some (.inl (nI (fR (fBit (nA M) b iv) t))), some (.inl (nI t)), some (.inl (nI (nC (fZero (nA M) b t) k))), some (.inl (nI (nC (fOne (nA M) b t) k))), some (.inl (nI (b * 8 + k))), l9, l10] [] M) 8 ?_ ?_ 8 0 rfl _ _
          · intro l9 l10
            have n1 := nC_le (fOne (nA M) b t) 8
            have n0 := nC_le (fZero (nA M) b t) 8
            refine x_iload hO dX4_filter_35 rfl ?_
            refine x_bipush (v := nI 8) hO dX4_filter_37 rfl ?_
            refine x_iload_n hO dX4_filter_39 rfl rfl ?_
            refine x_imul hO dX4_filter_40 ?_
            rw [pk_mul, Nat.mul_comm 8 b]
            refine x_bipush (v := nI 8) hO dX4_filter_41 rfl ?_
            refine x_iadd hO dX4_filter_43 ?_
            rw [nI_add]
            refine x_icmp_ge (tgt := 148) hO dX4_filter_44 (by decide) (fun c3 => ?_) (fun c3 => ?_)
            · have fin : ∀ x : Bool, x = fBit (nA M) b iv t → XW U G 174 [some (.inr 9), some (.inl (nI b)), some (.inl (bI iv)), some (.inl (nI (aBank (nA M) b))), some (.inl (nI (fR (fBit (nA M) b iv) t))), some (.inl (nI t)), some (.inl (nI (nC (fZero (nA M) b t) 8))), some (.inl (nI (nC (fOne (nA M) b t) 8))), some (.inl (nI (b * 8 + 8))), l9, l10] [.inl (if x then nI (2 ^ t) else nI 0), .inl (nI (fR (fBit (nA M) b iv) t))] M := by
                intro x hx
                have lt := fR_lt (fBit (nA M) b iv) t
                have l2 : (2 : Nat) ^ t ≤ 2 ^ 8 := Nat.pow_le_pow_right (by decide) (by omega)
                refine x_ior hO dX4_filter_174 ?_
                have e : nI (fR (fBit (nA M) b iv) t) ||| (if x then nI (2 ^ t) else nI 0) = nI (fR (fBit (nA M) b iv) (t + 1)) := by
                  show _ = nI (if fBit (nA M) b iv t then fR (fBit (nA M) b iv) t ||| 2 ^ t else fR (fBit (nA M) b iv) t)
                  rw [← hx]
                  cases x
                  · rw [if_neg (by decide), if_neg (by decide), nI_or (by omega) (by decide), Nat.or_zero]
                  · rw [if_pos rfl, if_pos rfl, nI_or (by omega) (by omega)]
                rw [e]
                refine x_istore (n := 11) hO dX4_filter_175 rfl (by decide) hN ?_
                refine x_iinc hO dX4_filter_177 rfl (by first | exact xinc_n _ | rfl) rfl hN ?_
                refine x_goto (tgt := 12) hO dX4_filter_180 (by decide) ?_
                exact ih _ _ _ _ _
              refine x_iload hO dX4_filter_148 rfl ?_
              refine x_iload hO dX4_filter_150 rfl ?_
              refine x_iload_n hO dX4_filter_152 rfl rfl ?_
              refine x_icmp_eq (tgt := 166) hO dX4_filter_153 (by decide) (fun c4 => ?_) (fun c4 => ?_)
              · have e1 : nC (fOne (nA M) b t) 8 = aBank (nA M) b := (nI_eq (by omega) (by omega)).mp c4
                refine x_iconst (v := nI 1) hO dX4_filter_166 rfl ?_
                refine x_iload hO dX4_filter_167 rfl ?_
                refine x_ishl hO dX4_filter_169 ?_
                rw [bit_sh t (by omega)]
                refine x_goto (tgt := 174) hO dX4_filter_170 (by decide) ?_
                exact fin true (by unfold fBit; rw [decide_eq_true e1]; rfl)
              · have e1 : ¬ nC (fOne (nA M) b t) 8 = aBank (nA M) b := fun z => c4 (by rw [z])
                refine x_iload_n hO dX4_filter_156 rfl rfl ?_
                refine x_if_ne (tgt := 173) hO dX4_filter_157 (by decide) (fun c5 => ?_) (fun c5 => ?_)
                · refine x_iconst (v := nI 0) hO dX4_filter_173 rfl ?_
                  exact fin false (by unfold fBit; rw [decide_eq_false e1, bI_1 c5]; rfl)
                · refine x_iload hO dX4_filter_160 rfl ?_
                  refine x_iload_n hO dX4_filter_162 rfl rfl ?_
                  refine x_icmp_ne (tgt := 173) hO dX4_filter_163 (by decide) (fun c6 => ?_) (fun c6 => ?_)
                  · have e0 : ¬ nC (fZero (nA M) b t) 8 = aBank (nA M) b := fun z => c6 (by rw [z])
                    refine x_iconst (v := nI 0) hO dX4_filter_173 rfl ?_
                    exact fin false (by unfold fBit; rw [decide_eq_false e1, decide_eq_false e0]; simp)
                  · have e0 : nC (fZero (nA M) b t) 8 = aBank (nA M) b := (nI_eq (by omega) (by omega)).mp c6
                    refine x_iconst (v := nI 1) hO dX4_filter_166 rfl ?_
                    refine x_iload hO dX4_filter_167 rfl ?_
                    refine x_ishl hO dX4_filter_169 ?_
                    rw [bit_sh t (by omega)]
                    refine x_goto (tgt := 174) hO dX4_filter_170 (by decide) ?_
                    exact fin true (by unfold fBit; rw [decide_eq_true e0, bI_0 c5]; simp)
            · exact absurd (Int32.le_refl _) c3
          · intro k d2 hd2 ih2 l9 l10
            have hk : k < 8 := by omega
            have hs : b * 8 + k < 32 := by omega
            refine x_iload hO dX4_filter_35 rfl ?_
            refine x_bipush (v := nI 8) hO dX4_filter_37 rfl ?_
            refine x_iload_n hO dX4_filter_39 rfl rfl ?_
            refine x_imul hO dX4_filter_40 ?_
            rw [pk_mul, Nat.mul_comm 8 b]
            refine x_bipush (v := nI 8) hO dX4_filter_41 rfl ?_
            refine x_iadd hO dX4_filter_43 ?_
            rw [nI_add]
            refine x_icmp_ge (tgt := 148) hO dX4_filter_44 (by decide) (fun c3 => ?_) (fun c3 => ?_)
            · exact absurd c3 (nI_ge (by omega) (by omega))
            · have tail : ∀ x y : Bool, fOne (nA M) b t k = (x && y) → fZero (nA M) b t k = (x && !y) → XW U G 102 [some (.inr 9), some (.inl (nI b)), some (.inl (bI iv)), some (.inl (nI (aBank (nA M) b))), some (.inl (nI (fR (fBit (nA M) b iv) t))), some (.inl (nI t)), some (.inl (nI (nC (fZero (nA M) b t) k))), some (.inl (nI (nC (fOne (nA M) b t) k))), some (.inl (nI (b * 8 + k))), some (.inl (bI x)), some (.inl (bI y))] [] M := by
                intro x y h1 h0
                cases x
                · rw [nC_f h1, nC_f h0] at ih2
                  refine x_iload hO dX4_filter_102 rfl ?_
                  refine x_iload hO dX4_filter_104 rfl ?_
                  refine x_if_eq (tgt := 118) hO dX4_filter_106 (by decide) (fun c4 => ?_) (fun c4 => ?_)
                  · refine x_iconst (v := nI 0) hO dX4_filter_118 rfl ?_
                    refine x_iadd hO dX4_filter_119 ?_
                    rw [nI_z]
                    refine x_istore (n := 11) hO dX4_filter_120 rfl (by decide) hN ?_
                    refine x_iload hO dX4_filter_122 rfl ?_
                    refine x_iload hO dX4_filter_124 rfl ?_
                    refine x_if_eq (tgt := 138) hO dX4_filter_126 (by decide) (fun c5 => ?_) (fun c5 => ?_)
                    · refine x_iconst (v := nI 0) hO dX4_filter_138 rfl ?_
                      refine x_iadd hO dX4_filter_139 ?_
                      rw [nI_z]
                      refine x_istore (n := 11) hO dX4_filter_140 rfl (by decide) hN ?_
                      refine x_iinc hO dX4_filter_142 rfl (by first | exact xinc_n _ | rfl) rfl hN ?_
                      refine x_goto (tgt := 35) hO dX4_filter_145 (by decide) ?_
                      exact ih2 _ _
                    · exact absurd rfl c5
                  · exact absurd rfl c4
                · cases y
                  · rw [nC_f h1, nC_t h0] at ih2
                    refine x_iload hO dX4_filter_102 rfl ?_
                    refine x_iload hO dX4_filter_104 rfl ?_
                    refine x_if_eq (tgt := 118) hO dX4_filter_106 (by decide) (fun c4 => ?_) (fun c4 => ?_)
                    · exact absurd c4 (by decide)
                    · refine x_iload hO dX4_filter_109 rfl ?_
                      refine x_if_eq (tgt := 118) hO dX4_filter_111 (by decide) (fun c6 => ?_) (fun c6 => ?_)
                      · refine x_iconst (v := nI 0) hO dX4_filter_118 rfl ?_
                        refine x_iadd hO dX4_filter_119 ?_
                        rw [nI_z]
                        refine x_istore (n := 11) hO dX4_filter_120 rfl (by decide) hN ?_
                        refine x_iload hO dX4_filter_122 rfl ?_
                        refine x_iload hO dX4_filter_124 rfl ?_
                        refine x_if_eq (tgt := 138) hO dX4_filter_126 (by decide) (fun c5 => ?_) (fun c5 => ?_)
                        · exact absurd c5 (by decide)
                        · refine x_iload hO dX4_filter_129 rfl ?_
                          refine x_if_ne (tgt := 138) hO dX4_filter_131 (by decide) (fun c7 => ?_) (fun c7 => ?_)
                          · exact absurd rfl c7
                          · refine x_iconst (v := nI 1) hO dX4_filter_134 rfl ?_
                            refine x_goto (tgt := 139) hO dX4_filter_135 (by decide) ?_
                            refine x_iadd hO dX4_filter_139 ?_
                            rw [nI_1c]
                            refine x_istore (n := 11) hO dX4_filter_140 rfl (by decide) hN ?_
                            refine x_iinc hO dX4_filter_142 rfl (by first | exact xinc_n _ | rfl) rfl hN ?_
                            refine x_goto (tgt := 35) hO dX4_filter_145 (by decide) ?_
                            exact ih2 _ _
                      · exact absurd rfl c6
                  · rw [nC_t h1, nC_f h0] at ih2
                    refine x_iload hO dX4_filter_102 rfl ?_
                    refine x_iload hO dX4_filter_104 rfl ?_
                    refine x_if_eq (tgt := 118) hO dX4_filter_106 (by decide) (fun c4 => ?_) (fun c4 => ?_)
                    · exact absurd c4 (by decide)
                    · refine x_iload hO dX4_filter_109 rfl ?_
                      refine x_if_eq (tgt := 118) hO dX4_filter_111 (by decide) (fun c6 => ?_) (fun c6 => ?_)
                      · exact absurd c6 (by decide)
                      · refine x_iconst (v := nI 1) hO dX4_filter_114 rfl ?_
                        refine x_goto (tgt := 119) hO dX4_filter_115 (by decide) ?_
                        refine x_iadd hO dX4_filter_119 ?_
                        rw [nI_1c]
                        refine x_istore (n := 11) hO dX4_filter_120 rfl (by decide) hN ?_
                        refine x_iload hO dX4_filter_122 rfl ?_
                        refine x_iload hO dX4_filter_124 rfl ?_
                        refine x_if_eq (tgt := 138) hO dX4_filter_126 (by decide) (fun c5 => ?_) (fun c5 => ?_)
                        · exact absurd c5 (by decide)
                        · refine x_iload hO dX4_filter_129 rfl ?_
                          refine x_if_ne (tgt := 138) hO dX4_filter_131 (by decide) (fun c7 => ?_) (fun c7 => ?_)
                          · refine x_iconst (v := nI 0) hO dX4_filter_138 rfl ?_
                            refine x_iadd hO dX4_filter_139 ?_
                            rw [nI_z]
                            refine x_istore (n := 11) hO dX4_filter_140 rfl (by decide) hN ?_
                            refine x_iinc hO dX4_filter_142 rfl (by first | exact xinc_n _ | rfl) rfl hN ?_
                            refine x_goto (tgt := 35) hO dX4_filter_145 (by decide) ?_
                            exact ih2 _ _
                          · exact absurd c7 (by decide)
              have mid : ∀ x l10, (x = (aoc (nA M) (b * 8 + k) && mB (nA M) (b * 8 + k) t)) → XW U G 79 [some (.inr 9), some (.inl (nI b)), some (.inl (bI iv)), some (.inl (nI (aBank (nA M) b))), some (.inl (nI (fR (fBit (nA M) b iv) t))), some (.inl (nI t)), some (.inl (nI (nC (fZero (nA M) b t) k))), some (.inl (nI (nC (fOne (nA M) b t) k))), some (.inl (nI (b * 8 + k))), some (.inl (bI x)), l10] [] M := by
                intro x l10 hx
                refine x_aload_n hO dX4_filter_79 rfl rfl ?_
                refine x_iload hO dX4_filter_80 rfl ?_
                refine x_iconst (v := nI 3) hO dX4_filter_82 rfl ?_
                refine x_callV1 hO (m_at0 U M (s := b * 8 + k) (w := 3) hs (by decide)) dX4_filter_83 lkX4_55 fX4_at vX4_at (by decide) rfl rfl rfl rfl rfl (by decide) (Nat.le_of_ble_eq_true rfl) ?_
                refine x_iload hO dX4_filter_86 rfl ?_
                refine x_ishr hO dX4_filter_88 ?_
                refine x_iconst (v := nI 1) hO dX4_filter_89 rfl ?_
                refine x_iand hO dX4_filter_90 ?_
                refine x_iconst (v := nI 1) hO dX4_filter_91 rfl ?_
                by_cases ho : aoc (nA M) (b * 8 + k) = true
                · obtain ⟨-, ⟨m, v, m1, v1, m2, v2, mv⟩, -⟩ := w.2.2.2.1 _ ho
                  have e3 : M 10 (7 * (b * 8 + k) + 3) = nI v := by
                    have := mA_in (M := M) (c := 10) (o := 0) (w := 3) ho (by decide) (by decide)
                    rw [Nat.zero_add] at this
                    exact this.trans v2
                  have ev : vB (nA M) (b * 8 + k) t = v.testBit t := by unfold vB; rw [v2, nI_clamp (by omega)]
                  rw [e3, bitAt v v1 t ht]
                  rw [ho, Bool.true_and] at hx
                  refine x_icmp_ne (tgt := 99) hO dX4_filter_92 (by decide) (fun c4 => ?_) (fun c4 => ?_)
                  · have q : v.testBit t = false := by cases e : v.testBit t with | false => rfl | true => exact absurd (by rw [e]; rfl) c4
                    refine x_iconst (v := nI 0) hO dX4_filter_99 rfl ?_
                    refine x_istore (n := 11) hO dX4_filter_100 rfl (by decide) hN ?_
                    exact tail x false (by unfold fOne; rw [ho, ev, q, hx]; simp) (by unfold fZero; rw [ho, ev, q, hx]; simp)
                  · have q : v.testBit t = true := by cases e : v.testBit t with | true => rfl | false => rw [e] at c4; exact absurd c4 (by decide)
                    refine x_iconst (v := nI 1) hO dX4_filter_95 rfl ?_
                    refine x_goto (tgt := 100) hO dX4_filter_96 (by decide) ?_
                    refine x_istore (n := 11) hO dX4_filter_100 rfl (by decide) hN ?_
                    exact tail x true (by unfold fOne; rw [ho, ev, q, hx]; simp) (by unfold fZero; rw [ho, ev, q, hx]; simp)
                · have ho : aoc (nA M) (b * 8 + k) = false := by simpa using ho
                  rw [ho, Bool.false_and] at hx
                  subst hx
                  refine x_icmp_ne (tgt := 99) hO dX4_filter_92 (by decide) (fun c4 => ?_) (fun c4 => ?_)
                  · refine x_iconst (v := nI 0) hO dX4_filter_99 rfl ?_
                    refine x_istore (n := 11) hO dX4_filter_100 rfl (by decide) hN ?_
                    exact tail false false (by unfold fOne; rw [ho]; simp) (by unfold fZero; rw [ho]; simp)
                  · refine x_iconst (v := nI 1) hO dX4_filter_95 rfl ?_
                    refine x_goto (tgt := 100) hO dX4_filter_96 (by decide) ?_
                    refine x_istore (n := 11) hO dX4_filter_100 rfl (by decide) hN ?_
                    exact tail false true (by unfold fOne; rw [ho]; simp) (by unfold fZero; rw [ho]; simp)
              refine x_aload_n hO dX4_filter_47 rfl rfl ?_
              refine x_iload hO dX4_filter_48 rfl ?_
              refine x_callV1 hO (m_isFree U M hs) dX4_filter_50 lkX4_51 fX4_isFree vX4_isFree (by decide) rfl rfl rfl rfl rfl (by decide) (Nat.le_of_ble_eq_true rfl) ?_
              refine x_if_ne (tgt := 76) hO dX4_filter_53 (by decide) (fun c4 => ?_) (fun c4 => ?_)
              · have e : aoc (nA M) (b * 8 + k) = false := by simpa using bI_1 c4
                refine x_iconst (v := nI 0) hO dX4_filter_76 rfl ?_
                refine x_istore (n := 11) hO dX4_filter_77 rfl (by decide) hN ?_
                exact mid false _ (by rw [e]; rfl)
              · have ho : aoc (nA M) (b * 8 + k) = true := by simpa using bI_0 c4
                obtain ⟨-, ⟨m, v, m1, v1, m2, v2, mv⟩, -⟩ := w.2.2.2.1 _ ho
                have em : mB (nA M) (b * 8 + k) t = m.testBit t := by unfold mB; rw [m2, nI_clamp (by omega)]
                refine x_aload_n hO dX4_filter_56 rfl rfl ?_
                refine x_iload hO dX4_filter_57 rfl ?_
                refine x_iconst (v := nI 2) hO dX4_filter_59 rfl ?_
                refine x_callV1 hO (m_at U M ho (w := 2) (by decide) (by decide)) dX4_filter_60 lkX4_55 fX4_at vX4_at (by decide) rfl rfl rfl rfl rfl (by decide) (Nat.le_of_ble_eq_true rfl) ?_
                rw [m2]
                refine x_iload hO dX4_filter_63 rfl ?_
                refine x_ishr hO dX4_filter_65 ?_
                refine x_iconst (v := nI 1) hO dX4_filter_66 rfl ?_
                refine x_iand hO dX4_filter_67 ?_
                refine x_iconst (v := nI 1) hO dX4_filter_68 rfl ?_
                rw [bitAt m m1 t ht]
                refine x_icmp_ne (tgt := 76) hO dX4_filter_69 (by decide) (fun c5 => ?_) (fun c5 => ?_)
                · have q : m.testBit t = false := by cases e : m.testBit t with | false => rfl | true => exact absurd (by rw [e]; rfl) c5
                  refine x_iconst (v := nI 0) hO dX4_filter_76 rfl ?_
                  refine x_istore (n := 11) hO dX4_filter_77 rfl (by decide) hN ?_
                  exact mid false _ (by rw [ho, em, q]; rfl)
                · have q : m.testBit t = true := by cases e : m.testBit t with | true => rfl | false => rw [e] at c5; exact absurd c5 (by decide)
                  refine x_iconst (v := nI 1) hO dX4_filter_72 rfl ?_
                  refine x_goto (tgt := 77) hO dX4_filter_73 (by decide) ?_
                  refine x_istore (n := 11) hO dX4_filter_77 rfl (by decide) hN ?_
                  exact mid true _ (by rw [ho, em, q]; rfl)
/-! ===== the filters are the class's ===== -/
theorem nC_all {P Q : Nat → Bool} {n : Nat} : nC (fun i => P i && Q i) n = nC P n ↔ ∀ i, i < n → P i = true → Q i = true := by
  have h := nC_part (P := P) (Q := Q) n
  constructor
  · intro e i hi hp
    have := nC_0.mp (show nC (fun i => P i && !Q i) n = 0 by omega) i hi
    rw [hp] at this
    simpa using this
  · intro e
    have : nC (fun i => P i && !Q i) n = 0 := nC_0.mpr (fun i hi => by
      cases hp : P i with
      | false => rfl
      | true => rw [e i hi hp]; rfl)
    omega
/-- the class's common bits, as numbers -/
def cmN (A : aR) (b f : Nat) : Nat → Nat
  | 0 => (A f 2).toNatClampNeg
  | i + 1 => if aoc A (b * 8 + i) then cmN A b f i &&& ((A (b * 8 + i) 2).toNatClampNeg &&& (((A (b * 8 + i) 3).toNatClampNeg ^^^ (A f 3).toNatClampNeg) ^^^ (2 ^ 32 - 1))) else cmN A b f i
theorem wf_small {A : aR} {a s : Nat} (w : wfA A a) (h : aoc A s = true) : A s 2 = nI (A s 2).toNatClampNeg ∧ (A s 2).toNatClampNeg < 256 ∧ A s 3 = nI (A s 3).toNatClampNeg ∧ (A s 3).toNatClampNeg < 256 ∧ (A s 3).toNatClampNeg &&& (A s 2).toNatClampNeg = (A s 3).toNatClampNeg := by
  obtain ⟨-, ⟨m, v, m1, v1, m2, v2, mv⟩, -⟩ := w.2.2.2.1 _ h
  rw [m2, v2, nI_clamp (by omega), nI_clamp (by omega)]
  exact ⟨rfl, m1, rfl, v1, mv⟩
theorem cmN_eq {A : aR} {a b f : Nat} (w : wfA A a) (hf : aoc A f = true) : ∀ i, aCM A b f i = nI (cmN A b f i) ∧ cmN A b f i < 256
  | 0 => ⟨(wf_small w hf).1, (wf_small w hf).2.1⟩
  | i + 1 => by
    obtain ⟨h1, h2⟩ := cmN_eq (b := b) w hf i
    simp only [aCM, cmN]
    split
    · rename_i ho
      obtain ⟨a1, a2, a3, a4, -⟩ := wf_small w ho
      obtain ⟨-, -, b3, b4, -⟩ := wf_small w hf
      have ex : ((A (b * 8 + i) 3).toNatClampNeg ^^^ (A f 3).toNatClampNeg) < 2 ^ 32 := Nat.xor_lt_two_pow (by omega) (by omega)
      have ey : ((A (b * 8 + i) 3).toNatClampNeg ^^^ (A f 3).toNatClampNeg) ^^^ (2 ^ 32 - 1) < 2 ^ 32 := Nat.xor_lt_two_pow ex (by omega)
      have em : (-1 : Int32) = nI (2 ^ 32 - 1) := by decide
      refine ⟨?_, Nat.lt_of_le_of_lt Nat.and_le_left h2⟩
      rw [h1, ← nI_and (by omega) (Nat.lt_of_le_of_lt Nat.and_le_left (by omega)), ← nI_and (by omega) ey, ← nI_xor ex (by omega), ← nI_xor (by omega) (by omega), ← a1, ← a3, ← b3, em]
    · exact ⟨h1, h2⟩
theorem cmN_bit {A : aR} {b f t : Nat} (ht : t < 32) : ∀ i, (cmN A b f i).testBit t = true ↔ (mB A f t = true ∧ ∀ k, k < i → aoc A (b * 8 + k) = true → mB A (b * 8 + k) t = true ∧ vB A (b * 8 + k) t = vB A f t)
  | 0 => by
    show mB A f t = true ↔ _
    constructor
    · exact fun h => ⟨h, fun k hk => by omega⟩
    · exact fun h => h.1
  | i + 1 => by
    have ih := cmN_bit (A := A) (b := b) (f := f) ht i
    have b1 : (2 ^ 32 - 1 : Nat).testBit t = true := (by decide : ∀ t, t < 32 → (2 ^ 32 - 1 : Nat).testBit t = true) t ht
    have step : ∀ Z : Prop, (Z ↔ (aoc A (b * 8 + i) = true → mB A (b * 8 + i) t = true ∧ vB A (b * 8 + i) t = vB A f t)) → (((cmN A b f i).testBit t = true ∧ Z) ↔ (mB A f t = true ∧ ∀ k, k < i + 1 → aoc A (b * 8 + k) = true → mB A (b * 8 + k) t = true ∧ vB A (b * 8 + k) t = vB A f t)) := by
      intro Z hZ
      rw [ih, hZ]
      constructor
      · rintro ⟨⟨h1, h2⟩, h3⟩
        refine ⟨h1, fun k hk ho => ?_⟩
        by_cases e : k = i
        · subst e
          exact h3 ho
        · exact h2 k (by omega) ho
      · rintro ⟨h1, h2⟩
        exact ⟨⟨h1, fun k hk => h2 k (by omega)⟩, h2 i (by omega)⟩
    simp only [cmN]
    split
    · rename_i ho
      rw [Nat.testBit_and, Nat.testBit_and, Nat.testBit_xor, Nat.testBit_xor, b1, Bool.and_eq_true]
      refine step _ ?_
      show ((mB A (b * 8 + i) t && ((vB A (b * 8 + i) t ^^ vB A f t) ^^ true)) = true) ↔ _
      cases mB A (b * 8 + i) t <;> cases vB A (b * 8 + i) t <;> cases vB A f t <;> simp [ho]
    · rename_i ho
      have := step True (by simp [ho])
      rw [← this, and_true]
theorem aFE_bank {A : aR} {b : Nat} : aFE A b < 8 ↔ aBank A b ≠ 0 := by
  constructor
  · intro h z
    have := nC_0.mp z _ h
    rw [aFE_oc h] at this
    cases this
  · intro h
    rcases Nat.lt_or_ge (aFE A b) 8 with q | q
    · exact q
    · exact absurd (nC_0.mpr (fun i hi => nF_no (P := fun i => aoc A (b * 8 + i)) 8 0 i (Nat.zero_le _) (show i < aFE A b from by omega))) h
theorem fOne_all {A : aR} {b t : Nat} : nC (fOne A b t) 8 = aBank A b ↔ ∀ k, k < 8 → aoc A (b * 8 + k) = true → mB A (b * 8 + k) t = true ∧ vB A (b * 8 + k) t = true := by
  have := nC_all (P := fun k => aoc A (b * 8 + k)) (Q := fun k => mB A (b * 8 + k) t && vB A (b * 8 + k) t) (n := 8)
  simp only [Bool.and_eq_true] at this
  exact this
theorem fZero_all {A : aR} {b t : Nat} : nC (fZero A b t) 8 = aBank A b ↔ ∀ k, k < 8 → aoc A (b * 8 + k) = true → mB A (b * 8 + k) t = true ∧ vB A (b * 8 + k) t = false := by
  have := nC_all (P := fun k => aoc A (b * 8 + k)) (Q := fun k => mB A (b * 8 + k) t && !vB A (b * 8 + k) t) (n := 8)
  simp only [Bool.and_eq_true, Bool.not_eq_true'] at this
  exact this
theorem fil_m {A : aR} {a b : Nat} (w : wfA A a) : nI (if aBank A b = 0 then 0 else fR (fBit A b false) 8) = aFM A b := by
  unfold aFM
  by_cases h : aFE A b < 8
  · rw [if_neg (aFE_bank.mp h), if_pos h]
    have ho := aFE_oc h
    have hf8 := h
    generalize aFE A b = e at *
    obtain ⟨h1, h2⟩ := cmN_eq (b := b) w ho 8
    rw [h1]
    congr 1
    refine Nat.eq_of_testBit_eq (fun t => ?_)
    rw [fR_bit]
    rcases Nat.lt_or_ge t 8 with q | q
    · rw [decide_eq_true q, Bool.true_and, Bool.eq_iff_iff, cmN_bit (by omega)]
      unfold fBit
      rw [Bool.not_false, Bool.true_and, Bool.or_eq_true, decide_eq_true_eq, decide_eq_true_eq, fOne_all, fZero_all]
      constructor
      · rintro (z | z)
        · exact ⟨(z e hf8 ho).1, fun k hk hq => ⟨(z k hk hq).1, by rw [(z k hk hq).2, (z e hf8 ho).2]⟩⟩
        · exact ⟨(z e hf8 ho).1, fun k hk hq => ⟨(z k hk hq).1, by rw [(z k hk hq).2, (z e hf8 ho).2]⟩⟩
      · rintro ⟨-, z⟩
        cases ev : vB A (b * 8 + e) t with
        | true => exact Or.inl (fun k hk hq => ⟨(z k hk hq).1, by rw [(z k hk hq).2, ev]⟩)
        | false => exact Or.inr (fun k hk hq => ⟨(z k hk hq).1, by rw [(z k hk hq).2, ev]⟩)
    · rw [decide_eq_false (by omega), Bool.false_and]
      exact (Nat.testBit_lt_two_pow (Nat.lt_of_lt_of_le h2 (Nat.pow_le_pow_right (n := 2) (i := 8) (by decide) q))).symm
  · rw [if_pos (Classical.byContradiction (fun z => h (aFE_bank.mpr z))), if_neg h]
    rfl
theorem fil_v {A : aR} {a b : Nat} (w : wfA A a) : nI (if aBank A b = 0 then 0 else fR (fBit A b true) 8) = aFV A b := by
  unfold aFV aFM
  by_cases h : aFE A b < 8
  · rw [if_neg (aFE_bank.mp h), if_pos h, if_pos h]
    have ho := aFE_oc h
    have hf8 := h
    generalize aFE A b = e at *
    obtain ⟨h1, h2⟩ := cmN_eq (b := b) w ho 8
    obtain ⟨-, -, a3, a4, -⟩ := wf_small w ho
    rw [h1, a3, nI_and (by omega) (by omega)]
    congr 1
    refine Nat.eq_of_testBit_eq (fun t => ?_)
    rw [fR_bit, Nat.testBit_and]
    rcases Nat.lt_or_ge t 8 with q | q
    · rw [decide_eq_true q, Bool.true_and, Bool.eq_iff_iff, Bool.and_eq_true, cmN_bit (by omega)]
      unfold fBit
      rw [Bool.not_true, Bool.false_and, Bool.or_false, decide_eq_true_eq, fOne_all]
      show _ ↔ (vB A (b * 8 + e) t = true ∧ _)
      constructor
      · intro z
        exact ⟨(z e hf8 ho).2, (z e hf8 ho).1, fun k hk hq => ⟨(z k hk hq).1, by rw [(z k hk hq).2, (z e hf8 ho).2]⟩⟩
      · rintro ⟨ev, -, z⟩
        exact fun k hk hq => ⟨(z k hk hq).1, by rw [(z k hk hq).2, ev]⟩
    · rw [decide_eq_false (by omega), Bool.false_and, Nat.testBit_lt_two_pow (Nat.lt_of_lt_of_le h2 (Nat.pow_le_pow_right (n := 2) (i := 8) (by decide) q)), Bool.and_false]
  · rw [if_pos (Classical.byContradiction (fun z => h (aFE_bank.mpr z))), if_neg h]
    rfl
theorem m_fm (U : xP) (M : xM) {a : Nat} (w : wfA (nA M) a) {b : Nat} (hb : b < 4) : xMetI U mX4_filter [.inr 9, .inl (nI b), .inl (nI 0)] M (fun r M' => r = aFM (nA M) b ∧ M' = M) := by
  have h := m_filter0 U M w hb false
  rw [fil_m w] at h
  exact h
theorem m_fv (U : xP) (M : xM) {a : Nat} (w : wfA (nA M) a) {b : Nat} (hb : b < 4) : xMetI U mX4_filter [.inr 9, .inl (nI b), .inl (nI 1)] M (fun r M' => r = aFV (nA M) b ∧ M' = M) := by
  have h := m_filter0 U M w hb true
  rw [fil_v w] at h
  exact h
theorem km_filterMask (U : xP) (M : xM) {s : aO} (h : RM M s) {B : Nat} (w : WfO s B) (x : Int32) : xMetI U mX4_filterMask [.inr 9, .inl x] M (quC M (q_fm s.1.1 x)) := by
  refine xMetI.of (ty := .int) (L := [some (.inr 9), some (.inl x)]) fX4_filterMask rfl rfl (Nat.le_of_ble_eq_true rfl) (fun G hN hO hR => ?_)
  have hN : G.2.2.2.2.2.2.2.2.2.2.1 = 2 := hN
  have hO : xOK U G RX4 cX4_filterMask 3 := hO
  obtain ⟨⟨a0, l0, -, wA⟩, -, -⟩ := w
  unfold q_fm at hR
  rw [← h.rows] at hR wA
  refine x_iload_n hO dX4_filterMask_0 rfl rfl ?_
  refine x_iconst (v := nI 0) hO dX4_filterMask_1 rfl ?_
  refine x_iconst (v := nI 3) hO dX4_filterMask_2 rfl ?_
  refine x_callS1 hO (m_in U M x (n := 3) (by decide)) dX4_filterMask_3 lkX4_28 fX4_in sX4_in rfl rfl (by decide) (Nat.le_of_ble_eq_true rfl) ?_
  refine x_if_eq (tgt := 18) hO dX4_filterMask_6 (by decide) (fun c => ?_) (fun c => ?_)
  · rw [if_neg (by rw [bI_0 c]; decide)] at hR
    refine x_iconst (v := (-1 : Int32)) hO dX4_filterMask_18 rfl ?_
    refine x_iret hO hR dX4_filterMask_19 rfl ?_
    exact ⟨rfl, rfl⟩
  · have q := bI_1 c
    rw [if_pos q] at hR
    obtain ⟨ej, hj⟩ := ixB_c (by decide) q
    generalize x.toNatClampNeg = j at *
    subst ej
    refine x_aload_n hO dX4_filterMask_9 rfl rfl ?_
    refine x_iload_n hO dX4_filterMask_10 rfl rfl ?_
    refine x_iconst (v := nI 0) hO dX4_filterMask_11 rfl ?_
    refine x_callV1 hO (m_fm U M wA hj) dX4_filterMask_12 lkX4_133 fX4_filter vX4_filter (by decide) rfl rfl rfl rfl rfl (by decide) (Nat.le_of_ble_eq_true rfl) ?_
    refine x_goto (tgt := 19) hO dX4_filterMask_15 (by decide) ?_
    refine x_iret hO hR dX4_filterMask_19 rfl ?_
    exact ⟨rfl, rfl⟩
theorem km_filterValue (U : xP) (M : xM) {s : aO} (h : RM M s) {B : Nat} (w : WfO s B) (x : Int32) : xMetI U mX4_filterValue [.inr 9, .inl x] M (quC M (q_fv s.1.1 x)) := by
  refine xMetI.of (ty := .int) (L := [some (.inr 9), some (.inl x)]) fX4_filterValue rfl rfl (Nat.le_of_ble_eq_true rfl) (fun G hN hO hR => ?_)
  have hN : G.2.2.2.2.2.2.2.2.2.2.1 = 2 := hN
  have hO : xOK U G RX4 cX4_filterValue 3 := hO
  obtain ⟨⟨a0, l0, -, wA⟩, -, -⟩ := w
  unfold q_fv at hR
  rw [← h.rows] at hR wA
  refine x_iload_n hO dX4_filterValue_0 rfl rfl ?_
  refine x_iconst (v := nI 0) hO dX4_filterValue_1 rfl ?_
  refine x_iconst (v := nI 3) hO dX4_filterValue_2 rfl ?_
  refine x_callS1 hO (m_in U M x (n := 3) (by decide)) dX4_filterValue_3 lkX4_28 fX4_in sX4_in rfl rfl (by decide) (Nat.le_of_ble_eq_true rfl) ?_
  refine x_if_eq (tgt := 18) hO dX4_filterValue_6 (by decide) (fun c => ?_) (fun c => ?_)
  · rw [if_neg (by rw [bI_0 c]; decide)] at hR
    refine x_iconst (v := (-1 : Int32)) hO dX4_filterValue_18 rfl ?_
    refine x_iret hO hR dX4_filterValue_19 rfl ?_
    exact ⟨rfl, rfl⟩
  · have q := bI_1 c
    rw [if_pos q] at hR
    obtain ⟨ej, hj⟩ := ixB_c (by decide) q
    generalize x.toNatClampNeg = j at *
    subst ej
    refine x_aload_n hO dX4_filterValue_9 rfl rfl ?_
    refine x_iload_n hO dX4_filterValue_10 rfl rfl ?_
    refine x_iconst (v := nI 1) hO dX4_filterValue_11 rfl ?_
    refine x_callV1 hO (m_fv U M wA hj) dX4_filterValue_12 lkX4_133 fX4_filter vX4_filter (by decide) rfl rfl rfl rfl rfl (by decide) (Nat.le_of_ble_eq_true rfl) ?_
    refine x_goto (tgt := 19) hO dX4_filterValue_15 (by decide) ?_
    refine x_iret hO hR dX4_filterValue_19 rfl ?_
    exact ⟨rfl, rfl⟩
theorem m_powerOf (U : xP) (M : xM) {a : Nat} (w : wfA (nA M) a) (x : Int32) : xMetI U mX4_powerOf [.inr 9, .inl x] M (fun r M' => r = nI (aPw (nA M) x 4) ∧ M' = M) := by
  refine xMetI.of (ty := .int) (L := [some (.inr 9), some (.inl x), none, none]) fX4_powerOf rfl rfl (Nat.le_of_ble_eq_true rfl) (fun G hN hO hR => ?_)
  have hN : G.2.2.2.2.2.2.2.2.2.2.1 = 4 := hN
  have hO : xOK U G RX4 cX4_powerOf 3 := hO
  refine x_iconst (v := nI 0) hO dX4_powerOf_0 rfl ?_
  refine x_istore_n (n := 4) hO dX4_powerOf_1 rfl rfl (by decide) hN ?_
  refine x_iconst (v := nI 0) hO dX4_powerOf_2 rfl ?_
  refine x_istore_n (n := 4) hO dX4_powerOf_3 rfl rfl (by decide) hN ?_
  refine upd_ind (P := fun i _ => XW U G 4 [some (.inr 9), some (.inl x), some (.inl (nI (aPw (nA M) x i))), some (.inl (nI i))] [] M) 4 ?_ ?_ 4 0 rfl
  · refine x_iload_n hO dX4_powerOf_4 rfl rfl ?_
    refine x_iconst (v := nI 4) hO dX4_powerOf_5 rfl ?_
    refine x_icmp_ge (tgt := 44) hO dX4_powerOf_6 (by decide) (fun c => ?_) (fun c => ?_)
    · refine x_iload_n hO dX4_powerOf_44 rfl rfl ?_
      refine x_iret hO hR dX4_powerOf_45 rfl ?_
      exact ⟨rfl, rfl⟩
    · exact absurd (Int32.le_refl _) c
  · intro i d hd ih
    have hi : i < 4 := by omega
    refine x_iload_n hO dX4_powerOf_4 rfl rfl ?_
    refine x_iconst (v := nI 4) hO dX4_powerOf_5 rfl ?_
    refine x_icmp_ge (tgt := 44) hO dX4_powerOf_6 (by decide) (fun c => ?_) (fun c => ?_)
    · exact absurd c (nI_ge hi (by decide))
    · refine x_iload_n hO dX4_powerOf_9 rfl rfl ?_
      refine x_iload_n hO dX4_powerOf_10 rfl rfl ?_
      refine x_aload_n hO dX4_powerOf_11 rfl rfl ?_
      refine x_iload_n hO dX4_powerOf_12 rfl rfl ?_
      refine x_iconst (v := nI 0) hO dX4_powerOf_13 rfl ?_
      refine x_callV1 hO (m_fm U M w hi) dX4_powerOf_14 lkX4_133 fX4_filter vX4_filter (by decide) rfl rfl rfl rfl rfl (by decide) (Nat.le_of_ble_eq_true rfl) ?_
      refine x_iand hO dX4_powerOf_17 ?_
      refine x_aload_n hO dX4_powerOf_18 rfl rfl ?_
      refine x_iload_n hO dX4_powerOf_19 rfl rfl ?_
      refine x_iconst (v := nI 1) hO dX4_powerOf_20 rfl ?_
      refine x_callV1 hO (m_fv U M w hi) dX4_powerOf_21 lkX4_133 fX4_filter vX4_filter (by decide) rfl rfl rfl rfl rfl (by decide) (Nat.le_of_ble_eq_true rfl) ?_
      refine x_icmp_ne (tgt := 35) hO dX4_powerOf_24 (by decide) (fun c2 => ?_) (fun c2 => ?_)
      · have e : aPw (nA M) x (i + 1) = aPw (nA M) x i := by rw [aPw, if_neg c2]
        rw [e] at ih
        refine x_iconst (v := nI 0) hO dX4_powerOf_35 rfl ?_
        refine x_iadd hO dX4_powerOf_36 ?_
        rw [nI_z]
        refine x_istore_n (n := 4) hO dX4_powerOf_37 rfl rfl (by decide) hN ?_
        refine x_iinc hO dX4_powerOf_38 rfl (by first | exact xinc_n _ | rfl) rfl hN ?_
        refine x_goto (tgt := 4) hO dX4_powerOf_41 (by decide) ?_
        exact ih
      · have e : aPw (nA M) x (i + 1) = aPw (nA M) x i + aBank (nA M) i := by rw [aPw, if_pos (Classical.not_not.mp (fun z => z c2))]
        rw [e] at ih
        refine x_aload_n hO dX4_powerOf_27 rfl rfl ?_
        refine x_iload_n hO dX4_powerOf_28 rfl rfl ?_
        refine x_callV1 hO (m_entriesIn U M hi) dX4_powerOf_29 lkX4_130 fX4_entriesIn vX4_entriesIn (by decide) rfl rfl rfl rfl rfl (by decide) (Nat.le_of_ble_eq_true rfl) ?_
        refine x_goto (tgt := 36) hO dX4_powerOf_32 (by decide) ?_
        refine x_iadd hO dX4_powerOf_36 ?_
        rw [nI_add]
        refine x_istore_n (n := 4) hO dX4_powerOf_37 rfl rfl (by decide) hN ?_
        refine x_iinc hO dX4_powerOf_38 rfl (by first | exact xinc_n _ | rfl) rfl hN ?_
        refine x_goto (tgt := 4) hO dX4_powerOf_41 (by decide) ?_
        exact ih
theorem km_power (U : xP) (M : xM) {s : aO} (h : RM M s) {B : Nat} (w : WfO s B) (x : Int32) : xMetI U mX4_power [.inr 9, .inl x] M (quC M (q_power s.1.1 x)) := by
  refine xMetI.of (ty := .int) (L := [some (.inr 9), some (.inl x)]) fX4_power rfl rfl (Nat.le_of_ble_eq_true rfl) (fun G hN hO hR => ?_)
  have hN : G.2.2.2.2.2.2.2.2.2.2.1 = 2 := hN
  have hO : xOK U G RX4 cX4_power 4 := hO
  obtain ⟨⟨a0, l0, -, wA⟩, -, -⟩ := w
  unfold q_power at hR
  rw [← h.rows] at hR wA
  refine x_iload_n hO dX4_power_0 rfl rfl ?_
  refine x_callS1 hO (m_isByte U M x) dX4_power_1 lkX4_79 fX4_isByte sX4_isByte rfl rfl (by decide) (Nat.le_of_ble_eq_true rfl) ?_
  refine x_if_eq (tgt := 15) hO dX4_power_4 (by decide) (fun c => ?_) (fun c => ?_)
  · rw [if_neg (by rw [bI_0 c]; decide)] at hR
    refine x_bipush (v := (-2 : Int32)) hO dX4_power_15 rfl ?_
    refine x_iret hO hR dX4_power_17 rfl ?_
    exact ⟨rfl, rfl⟩
  · rw [if_pos (bI_1 c)] at hR
    refine x_aload_n hO dX4_power_7 rfl rfl ?_
    refine x_iload_n hO dX4_power_8 rfl rfl ?_
    refine x_callV1 hO (m_powerOf U M wA x) dX4_power_9 lkX4_140 fX4_powerOf vX4_powerOf (by decide) rfl rfl rfl rfl rfl (by decide) (Nat.le_of_ble_eq_true rfl) ?_
    refine x_goto (tgt := 17) hO dX4_power_12 (by decide) ?_
    refine x_iret hO hR dX4_power_17 rfl ?_
    exact ⟨rfl, rfl⟩
