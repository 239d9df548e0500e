/-! ===== the reference's rules of a text ===== -/
theorem p2_div : ∀ i, i < 8 → 128 / 2 ^ i = 2 ^ (7 - i) := by decide
theorem eV_dvd (T : tT) (p : Nat) : ∀ i, i ≤ 8 → ∃ q, eV T p i = 2 ^ (8 - i) * q
  | 0, _ => ⟨0, rfl⟩
  | i + 1, h => by
    obtain ⟨q, e⟩ := eV_dvd T p i (by omega)
    simp only [eV]
    rw [e, show 8 - i = (7 - i) + 1 by omega, Nat.pow_succ, show 8 - (i + 1) = 7 - i by omega, p2_div i (by omega)]
    split
    · exact ⟨2 * q + 1, by rw [Nat.mul_add, Nat.mul_assoc, Nat.mul_one]⟩
    · exact ⟨2 * q, by rw [Nat.mul_assoc, Nat.add_zero]⟩
theorem eM_dvd (T : tT) (p : Nat) : ∀ i, i ≤ 8 → ∃ q, eM T p i = 2 ^ (8 - i) * q
  | 0, _ => ⟨0, rfl⟩
  | i + 1, h => by
    obtain ⟨q, e⟩ := eM_dvd T p i (by omega)
    simp only [eM]
    rw [e, show 8 - i = (7 - i) + 1 by omega, Nat.pow_succ, show 8 - (i + 1) = 7 - i by omega, p2_div i (by omega)]
    split
    · exact ⟨2 * q, by rw [Nat.mul_assoc, Nat.add_zero]⟩
    · exact ⟨2 * q + 1, by rw [Nat.mul_add, Nat.mul_assoc, Nat.mul_one]⟩
theorem or_add {x i : Nat} (hi : i < 8) (h : ∃ q, x = 2 ^ (8 - i) * q) : x ||| 2 ^ (7 - i) = x + 2 ^ (7 - i) := by
  obtain ⟨q, rfl⟩ := h
  exact (Nat.two_pow_add_eq_or_of_lt (Nat.pow_lt_pow_right (by decide) (by omega)) q).symm
/-- the signs read so far are bits -/
theorem eV_or (T : tT) (p : Nat) {i : Nat} (hi : i < 8) : nI (eV T p i) ||| (if T (p + i) = nI 49 then nI (2 ^ (7 - i)) else nI 0) = nI (eV T p (i + 1)) := by
  have l1 := eV_le T p i (by omega)
  have l2 : (2 : Nat) ^ (7 - i) ≤ 2 ^ 7 := Nat.pow_le_pow_right (by decide) (by omega)
  have pos : 0 < 256 / 2 ^ i := Nat.div_pos (Nat.le_trans (Nat.pow_le_pow_right (n := 2) (i := i) (j := 8) (by decide) (by omega)) (by decide)) (Nat.pow_pos (by decide))
  simp only [eV]
  split
  · rw [nI_or (by omega) (by omega), or_add hi (eV_dvd T p i (by omega)), p2_div i hi]
  · rw [nI_or (by omega) (by decide), Nat.or_zero, Nat.add_zero]
theorem eM_or (T : tT) (p : Nat) {i : Nat} (hi : i < 8) : nI (eM T p i) ||| (if T (p + i) = nI 42 then nI 0 else nI (2 ^ (7 - i))) = nI (eM T p (i + 1)) := by
  have l1 := eM_le T p i (by omega)
  have l2 : (2 : Nat) ^ (7 - i) ≤ 2 ^ 7 := Nat.pow_le_pow_right (by decide) (by omega)
  have pos : 0 < 256 / 2 ^ i := Nat.div_pos (Nat.le_trans (Nat.pow_le_pow_right (n := 2) (i := i) (j := 8) (by decide) (by omega)) (by decide)) (Nat.pow_pos (by decide))
  simp only [eM]
  split
  · rw [nI_or (by omega) (by decide), Nat.or_zero, Nat.add_zero]
  · rw [nI_or (by omega) (by omega), or_add hi (eM_dvd T p i (by omega)), p2_div i hi]
/-- what reading a rule leaves -/
def rdM (M M' : xM) (e : Nat) : Prop := M' 9 10 = nI e ∧ (∀ j, j ≠ 9 → j ≠ 10 → M' 9 j = M 9 j) ∧ ∀ k, k ≠ 9 → k ≠ 15 → M' k = M k
theorem sp_rd (M : xM) (e : Nat) : rdM M (sp M e) e := ⟨sp_at M e, fun j _ h => sp_9 M e h, fun k h _ => sp_k M e h⟩
theorem rdM.tr {M M1 M2 : xM} {e1 e2 : Nat} (h1 : rdM M M1 e1) (h2 : rdM M1 M2 e2) : rdM M M2 e2 := ⟨h2.1, fun j a b => by rw [h2.2.1 j a b, h1.2.1 j a b], fun k a b => by rw [h2.2.2 k a b, h1.2.2 k a b]⟩
/-- the rules told so far -/
def tDm (T : tT) (n i : Nat) (M : xM) : Prop := ∀ j, j < i → M 15 (4 * j) = nI (eV T (tB T n j) 8) ∧ M 15 (4 * j + 1) = nI (eM T (tB T n j) 8) ∧ M 15 (4 * j + 2) = rRank T n (tB T n j) ∧ M 15 (4 * j + 3) = rAct T n (tB T n j)
def told (f : Nat → Int32) (i : Nat) (v m r a : Int32) : Nat → Int32 := upd (upd (upd (upd f (4 * i) v) (4 * i + 1) m) (4 * i + 2) r) (4 * i + 3) a
theorem m_readRule (U : xP) (M : xM) {n p i : Nat} (h7 : M 9 7 = nI n) (h10 : M 9 10 = nI p) (h9 : M 9 9 = nI i) (hn : n ≤ 60) (hp : p ≤ n) (hi : i < 5) : xMetI U mX4_readRule [.inr 9] M (fun r M' => r = bI (rOK (M 14) n p) ∧ rdM M M' (rEnd (M 14) n p) ∧ (rOK (M 14) n p = true → M' 9 9 = nI (i + 1) ∧ M' 15 = told (M 15) i (nI (eV (M 14) p 8)) (nI (eM (M 14) p 8)) (rRank (M 14) n p) (rAct (M 14) n p)) ∧ (rOK (M 14) n p = false → M' 9 9 = nI i ∧ M' 15 = M 15)) := by
  refine xMetI.of (ty := .boolean) (L := [some (.inr 9), none, none, none, none]) fX4_readRule rfl rfl (Nat.le_of_ble_eq_true rfl) (fun G hN hO hR => ?_)
  have hN : G.2.2.2.2.2.2.2.2.2.2.1 = 5 := hN
  have hO : xOK U G RX4 cX4_readRule 3 := hO
  have a7 : ∀ e, sp M e 9 7 = nI n := fun e => by rw [sp_9 _ _ (by decide)]; exact h7
  have a14 : ∀ e, sp M e 14 = M 14 := fun e => sp_k _ _ (by decide)
  have a9 : ∀ e, sp M e 9 9 = nI i := fun e => by rw [sp_9 _ _ (by decide)]; exact h9
  have a15 : ∀ e, sp M e 15 = M 15 := fun e => sp_k _ _ (by decide)
  have bad : ∀ e, e = rEnd (M 14) n p → rOK (M 14) n p = false → (bI false = bI (rOK (M 14) n p) ∧ rdM M (sp M e) (rEnd (M 14) n p) ∧ (rOK (M 14) n p = true → sp M e 9 9 = nI (i + 1) ∧ sp M e 15 = told (M 15) i (nI (eV (M 14) p 8)) (nI (eM (M 14) p 8)) (rRank (M 14) n p) (rAct (M 14) n p)) ∧ (rOK (M 14) n p = false → sp M e 9 9 = nI i ∧ sp M e 15 = M 15)) := by
    intro e he ho
    rw [ho]
    exact ⟨rfl, he ▸ sp_rd M e, fun z => absurd z (by decide), fun _ => ⟨a9 e, a15 e⟩⟩
  have hs0 : sp M p = M := sp_self h10
  have hE : rE (M 14) n p ≤ 8 := rE_le _ _ _
  refine x_iconst (v := nI 0) hO dX4_readRule_0 rfl ?_
  refine x_istore_n (n := 5) hO dX4_readRule_1 rfl rfl (by decide) hN ?_
  refine x_iconst (v := nI 0) hO dX4_readRule_2 rfl ?_
  refine x_istore_n (n := 5) hO dX4_readRule_3 rfl rfl (by decide) hN ?_
  refine x_bipush (v := nI 7) hO dX4_readRule_4 rfl ?_
  refine x_istore_n (n := 5) hO dX4_readRule_6 rfl rfl (by decide) hN ?_
  have loop := upd_ind (P := fun j d => nF (fun i => !isBt (sg (M 14) n (p + i))) j d = rE (M 14) n p → p + j ≤ n → ∀ l4, XW U G 7 [some (.inr 9), some (.inl (nI (eV (M 14) p j))), some (.inl (nI (eM (M 14) p j))), some (.inl (xm (8 - j))), l4] [] (sp M (p + j))) 8 ?_ ?_ 8 0 rfl rfl hp none
  · rw [Nat.add_zero, hs0] at loop
    exact loop
  · intro hf hpn l4
    have q8 : rE (M 14) n p = 8 := hf.symm
    refine x_iload_n hO dX4_readRule_7 rfl rfl ?_
    refine x_if_lt (tgt := 110) hO dX4_readRule_8 (by decide) (fun c => ?_) (fun c => ?_)
    · refine x_aload_n hO dX4_readRule_110 rfl rfl ?_
      refine x_bipush (v := nI 44) hO dX4_readRule_111 rfl ?_
      refine x_callV hO (m_takes U (sp M (p + 8)) (n := n) (p := p + 8) (a7 _) (sp_at _ _) hn hpn (nI 44) (by decide)) dX4_readRule_113 lkX4_152 fX4_takes vX4_takes (by decide) rfl rfl rfl rfl rfl (by decide) (Nat.le_of_ble_eq_true rfl) (fun r M1 m1 => ?_)
      obtain ⟨rfl, m1⟩ := m1
      rw [a14] at m1 ⊢
      refine x_if_ne (tgt := 121) hO dX4_readRule_116 (by decide) (fun c2 => ?_) (fun c2 => ?_)
      · have q : sg (M 14) n (p + 8) = nI 44 := by have := bI_1 c2; simpa using this
        have l9 := sg_lt q (by decide)
        rw [if_pos q] at m1
        unfold sp at m1
        change M1 = xset (sp M (p + 8)) 9 10 (nI (p + 8 + 1)) at m1
        rw [sp_sp] at m1
        subst m1
        refine x_aload_n hO dX4_readRule_121 rfl rfl ?_
        refine x_iconst (v := nI 2) hO dX4_readRule_122 rfl ?_
        refine x_callV hO (m_num2 U (sp M (p + 9)) (n := n) (p := p + 9) (a7 _) (sp_at _ _) hn (by omega)) dX4_readRule_123 lkX4_155 fX4_number vX4_number (by decide) rfl rfl rfl rfl rfl (by decide) (Nat.le_of_ble_eq_true rfl) (fun r M2 m2 => ?_)
        obtain ⟨rfl, m2⟩ := m2
        rw [a14] at m2 ⊢
        rw [show sp (sp M (p + 9)) _ = sp M _ from sp_sp M (p + 9) _] at m2
        subst m2
        by_cases q2 : isD (sg (M 14) n (p + 9)) = true
        · have k12 := rK_12 (M 14) n p
          have lk : p + 9 + rK (M 14) n p ≤ n := by
            have := isD_lt q2
            unfold rK
            split
            · rename_i z
              have := isD_lt z
              omega
            · omega
          have er : (if isD (sg (M 14) n (p + 9)) = true then (if isD (sg (M 14) n (p + 9 + 1)) = true then nI 10 * (M 14 (p + 9) - nI 48) + (M 14 (p + 9 + 1) - nI 48) else M 14 (p + 9) - nI 48) else -1) = rRank (M 14) n p := by
            rw [if_pos q2]
            rfl
          have es : (if isD (sg (M 14) n (p + 9)) = true then (if isD (sg (M 14) n (p + 9 + 1)) = true then p + 9 + 2 else p + 9 + 1) else p + 9) = p + 9 + rK (M 14) n p := by
            rw [if_pos q2]
            unfold rK
            rw [show p + 9 + 1 = p + 10 from rfl]
            split <;> rfl
          have rge : ¬ rRank (M 14) n p < 0 := by
            obtain ⟨j, hj, ej⟩ := isD_n q2
            rw [sg_in (isD_lt q2)] at ej
            unfold rRank
            split
            · rename_i z
              obtain ⟨j2, hj2, ej2⟩ := isD_n z
              rw [sg_in (isD_lt z)] at ej2
              rw [ej, ej2, pk_sub (by omega), pk_sub (by omega), pk_mul, nI_add]
              exact nI_pos (by omega)
            · rw [ej, pk_sub (by omega)]
              exact nI_pos (by omega)
          rw [er, es]
          refine x_istore_n (n := 5) hO dX4_readRule_126 rfl rfl (by decide) hN ?_
          refine x_iload_n hO dX4_readRule_127 rfl rfl ?_
          refine x_if_lt (tgt := 140) hO dX4_readRule_128 (by decide) (fun c3 => ?_) (fun c3 => ?_)
          · exact absurd c3 rge
          · refine x_aload_n hO dX4_readRule_131 rfl rfl ?_
            refine x_bipush (v := nI 44) hO dX4_readRule_132 rfl ?_
            refine x_callV hO (m_takes U (sp M (p + 9 + rK (M 14) n p)) (n := n) (p := p + 9 + rK (M 14) n p) (a7 _) (sp_at _ _) hn lk (nI 44) (by decide)) dX4_readRule_134 lkX4_152 fX4_takes vX4_takes (by decide) rfl rfl rfl rfl rfl (by decide) (Nat.le_of_ble_eq_true rfl) (fun r M3 m3 => ?_)
            obtain ⟨rfl, m3⟩ := m3
            rw [a14] at m3 ⊢
            refine x_if_ne (tgt := 142) hO dX4_readRule_137 (by decide) (fun c4 => ?_) (fun c4 => ?_)
            · have q3 : sg (M 14) n (p + 9 + rK (M 14) n p) = nI 44 := by have := bI_1 c4; simpa using this
              have l10 := sg_lt q3 (by decide)
              rw [if_pos q3, show sp (sp M (p + 9 + rK (M 14) n p)) _ = sp M _ from sp_sp M _ _] at m3
              subst m3
              have e10 : p + 9 + rK (M 14) n p + 1 = p + 10 + rK (M 14) n p := by omega
              rw [e10]
              refine x_aload_n hO dX4_readRule_142 rfl rfl ?_
              refine x_iconst (v := nI 1) hO dX4_readRule_143 rfl ?_
              refine x_callV hO (m_num1 U (sp M (p + 10 + rK (M 14) n p)) (n := n) (p := p + 10 + rK (M 14) n p) (a7 _) (sp_at _ _) hn (by omega)) dX4_readRule_144 lkX4_155 fX4_number vX4_number (by decide) rfl rfl rfl rfl rfl (by decide) (Nat.le_of_ble_eq_true rfl) (fun r M4 m4 => ?_)
              obtain ⟨rfl, m4⟩ := m4
              rw [a14] at m4 ⊢
              rw [show sp (sp M (p + 10 + rK (M 14) n p)) _ = sp M _ from sp_sp M _ _] at m4
              subst m4
              by_cases q4 : isD (sg (M 14) n (p + 10 + rK (M 14) n p)) = true
              · have ok : rOK (M 14) n p = true := by unfold rOK; simp [q8, q, q2, q3, q4]
                have age : 0 ≤ rAct (M 14) n p := by
                  obtain ⟨j, hj, ej⟩ := isD_n q4
                  rw [sg_in (isD_lt q4)] at ej
                  unfold rAct
                  rw [ej, pk_sub (by omega)]
                  exact Int32.not_lt.mp (nI_pos (by omega))
                have eend : rEnd (M 14) n p = p + 11 + rK (M 14) n p := (rOK_end ok).1
                rw [if_pos q4, if_pos q4]
                have e11 : p + 10 + rK (M 14) n p + 1 = rEnd (M 14) n p := by omega
                have ea : M 14 (p + 10 + rK (M 14) n p) - nI 48 = rAct (M 14) n p := rfl
                rw [e11, ea]
                generalize hM4 : sp M (rEnd (M 14) n p) = M4 at *
                have b9 : M4 9 9 = nI i := by rw [← hM4]; exact a9 _
                have b15 : M4 15 = M 15 := by rw [← hM4]; exact a15 _
                have brd : rdM M M4 (rEnd (M 14) n p) := by rw [← hM4]; exact sp_rd M _
                have i0 : 4 * i < 24 := by omega
                have i1 : 4 * i + 1 < 24 := by omega
                have i2 : 4 * i + 2 < 24 := by omega
                have i3 : 4 * i + 3 < 24 := by omega
                refine x_istore (n := 5) hO dX4_readRule_147 rfl (by decide) hN ?_
                refine x_iload hO dX4_readRule_149 rfl ?_
                refine x_if_ge (tgt := 156) hO dX4_readRule_151 (by decide) (fun c5 => ?_) (fun c5 => ?_)
                · have x9 : ∀ j x, xset M4 15 j x 9 9 = nI i := fun j x => by rw [xset_ne _ _ _ (by decide)]; exact b9
                  refine x_aload_n hO dX4_readRule_156 rfl rfl ?_
                  refine x_getR (T := TX4) (j := 8) hO dX4_readRule_157 flX4_25 (by decide) rfl rfl (by decide) rfl rfl ?_
                  refine x_iconst (v := nI 4) hO dX4_readRule_160 rfl ?_
                  refine x_aload_n hO dX4_readRule_161 rfl rfl ?_
                  refine x_getI (T := TX4) (j := 9) hO dX4_readRule_162 flX4_158 (by decide) rfl rfl (by decide) rfl rfl ?_
                  rw [b9]
                  refine x_imul hO dX4_readRule_165 ?_
                  rw [pk_mul]
                  refine x_iload_n hO dX4_readRule_166 rfl rfl ?_
                  refine x_iast hO (by decide) rfl (by decide) (rfl) (i0) dX4_readRule_167 ?_
                  have x9 : ∀ (f : xM), f 9 9 = nI i → ∀ j x, xset f 15 j x 9 9 = nI i := fun f hf j x => by rw [xset_ne _ _ _ (by decide)]; exact hf
                  have y1 := x9 M4 b9 (4 * i) (nI (eV (M 14) p 8))
                  refine x_aload_n hO dX4_readRule_168 rfl rfl ?_
                  refine x_getR (T := TX4) (j := 8) hO dX4_readRule_169 flX4_25 (by decide) rfl rfl (by decide) rfl rfl ?_
                  refine x_iconst (v := nI 4) hO dX4_readRule_172 rfl ?_
                  refine x_aload_n hO dX4_readRule_173 rfl rfl ?_
                  refine x_getI (T := TX4) (j := 9) hO dX4_readRule_174 flX4_158 (by decide) rfl rfl (by decide) rfl rfl ?_
                  rw [y1]
                  refine x_imul hO dX4_readRule_177 ?_
                  rw [pk_mul]
                  refine x_iconst (v := nI 1) hO dX4_readRule_178 rfl ?_
                  refine x_iadd hO dX4_readRule_179 ?_
                  rw [nI_add]
                  refine x_iload_n hO dX4_readRule_180 rfl rfl ?_
                  refine x_iast hO (by decide) rfl (by decide) (rfl) (i1) dX4_readRule_181 ?_
                  have y2 := x9 _ y1 (4 * i + 1) (nI (eM (M 14) p 8))
                  refine x_aload_n hO dX4_readRule_182 rfl rfl ?_
                  refine x_getR (T := TX4) (j := 8) hO dX4_readRule_183 flX4_25 (by decide) rfl rfl (by decide) rfl rfl ?_
                  refine x_iconst (v := nI 4) hO dX4_readRule_186 rfl ?_
                  refine x_aload_n hO dX4_readRule_187 rfl rfl ?_
                  refine x_getI (T := TX4) (j := 9) hO dX4_readRule_188 flX4_158 (by decide) rfl rfl (by decide) rfl rfl ?_
                  rw [y2]
                  refine x_imul hO dX4_readRule_191 ?_
                  rw [pk_mul]
                  refine x_iconst (v := nI 2) hO dX4_readRule_192 rfl ?_
                  refine x_iadd hO dX4_readRule_193 ?_
                  rw [nI_add]
                  refine x_iload_n hO dX4_readRule_194 rfl rfl ?_
                  refine x_iast hO (by decide) rfl (by decide) (rfl) (i2) dX4_readRule_195 ?_
                  have y3 := x9 _ y2 (4 * i + 2) (rRank (M 14) n p)
                  refine x_aload_n hO dX4_readRule_196 rfl rfl ?_
                  refine x_getR (T := TX4) (j := 8) hO dX4_readRule_197 flX4_25 (by decide) rfl rfl (by decide) rfl rfl ?_
                  refine x_iconst (v := nI 4) hO dX4_readRule_200 rfl ?_
                  refine x_aload_n hO dX4_readRule_201 rfl rfl ?_
                  refine x_getI (T := TX4) (j := 9) hO dX4_readRule_202 flX4_158 (by decide) rfl rfl (by decide) rfl rfl ?_
                  rw [y3]
                  refine x_imul hO dX4_readRule_205 ?_
                  rw [pk_mul]
                  refine x_iconst (v := nI 3) hO dX4_readRule_206 rfl ?_
                  refine x_iadd hO dX4_readRule_207 ?_
                  rw [nI_add]
                  refine x_iload hO dX4_readRule_208 rfl ?_
                  refine x_iast hO (by decide) rfl (by decide) (rfl) (i3) dX4_readRule_210 ?_
                  have y4 := x9 _ y3 (4 * i + 3) (rAct (M 14) n p)
                  refine x_aload_n hO dX4_readRule_211 rfl rfl ?_
                  refine x_dup hO dX4_readRule_212 ?_
                  refine x_getI (T := TX4) (j := 9) hO dX4_readRule_213 flX4_158 (by decide) rfl rfl (by decide) rfl rfl ?_
                  rw [y4]
                  refine x_iconst (v := nI 1) hO dX4_readRule_216 rfl ?_
                  refine x_iadd hO dX4_readRule_217 ?_
                  refine x_put (T := TX4) (j := 9) (ty := .int) hO dX4_readRule_218 flX4_158 (by decide) rfl rfl (by decide) rfl rfl rfl (by decide +kernel) rfl rfl ?_
                  refine x_iconst (v := nI 1) hO dX4_readRule_221 rfl ?_
                  rw [nI_1c]
                  refine x_iret hO hR dX4_readRule_222 rfl ?_
                  rw [ok]
                  refine ⟨rfl, ⟨?_, fun j j9 j10 => ?_, fun k k9 k15 => ?_⟩, fun _ => ⟨?_, ?_⟩, fun z => by cases z⟩
                  · rw [xset_at, if_pos rfl, if_neg (by decide), xset_ne _ _ _ (by decide), xset_ne _ _ _ (by decide), xset_ne _ _ _ (by decide), xset_ne _ _ _ (by decide)]
                    exact brd.1
                  · rw [xset_at, if_pos rfl, if_neg j9, xset_ne _ _ _ (by decide), xset_ne _ _ _ (by decide), xset_ne _ _ _ (by decide), xset_ne _ _ _ (by decide)]
                    exact brd.2.1 j j9 j10
                  · rw [xset_ne _ _ _ k9, xset_ne _ _ _ k15, xset_ne _ _ _ k15, xset_ne _ _ _ k15, xset_ne _ _ _ k15]
                    exact brd.2.2 k k9 k15
                  · rw [xset_at, if_pos rfl, if_pos rfl]
                  · rw [xset_ne _ _ _ (by decide), xset_same, xset_same, xset_same, xset_same, b15]
                    rfl
                · exact absurd age c5
              · have q4 : isD (sg (M 14) n (p + 10 + rK (M 14) n p)) = false := by simpa using q4
                rw [q4]
                simp only [Bool.false_eq_true, if_false]
                refine x_istore (n := 5) hO dX4_readRule_147 rfl (by decide) hN ?_
                refine x_iload hO dX4_readRule_149 rfl ?_
                refine x_if_ge (tgt := 156) hO dX4_readRule_151 (by decide) (fun c5 => ?_) (fun c5 => ?_)
                · exact absurd c5 (by decide)
                · refine x_iconst (v := nI 0) hO dX4_readRule_154 rfl ?_
                  refine x_iret hO hR dX4_readRule_155 rfl ?_
                  exact bad _ (by unfold rEnd; rw [if_pos q8, if_pos q, if_pos q2, if_pos q3, if_neg (by rw [q4]; decide)]) (by unfold rOK; simp [q4])
            · have q3 : ¬ sg (M 14) n (p + 9 + rK (M 14) n p) = nI 44 := by have := bI_0 c4; simpa using this
              rw [if_neg q3] at m3
              subst m3
              refine x_iconst (v := nI 0) hO dX4_readRule_140 rfl ?_
              refine x_iret hO hR dX4_readRule_141 rfl ?_
              exact bad _ (by unfold rEnd; rw [if_pos q8, if_pos q, if_pos q2, if_neg q3]) (by unfold rOK; simp [q3])
        · have q2 : isD (sg (M 14) n (p + 9)) = false := by simpa using q2
          rw [q2]
          simp only [Bool.false_eq_true, if_false]
          refine x_istore_n (n := 5) hO dX4_readRule_126 rfl rfl (by decide) hN ?_
          refine x_iload_n hO dX4_readRule_127 rfl rfl ?_
          refine x_if_lt (tgt := 140) hO dX4_readRule_128 (by decide) (fun c3 => ?_) (fun c3 => ?_)
          · refine x_iconst (v := nI 0) hO dX4_readRule_140 rfl ?_
            refine x_iret hO hR dX4_readRule_141 rfl ?_
            exact bad _ (by unfold rEnd; rw [if_pos q8, if_pos q, if_neg (by rw [q2]; decide)]) (by unfold rOK; simp [q2])
          · exact absurd (by decide) c3
      · have q : ¬ sg (M 14) n (p + 8) = nI 44 := by have := bI_0 c2; simpa using this
        rw [if_neg q] at m1
        subst m1
        refine x_iconst (v := nI 0) hO dX4_readRule_119 rfl ?_
        refine x_iret hO hR dX4_readRule_120 rfl ?_
        exact bad _ (by unfold rEnd; rw [if_pos q8, if_neg q]) (by unfold rOK; simp [q])
    · exact absurd (by decide) c
  · intro j d hd ih hf hpn l4
    have hj : j < 8 := by omega
    have ex : xm (8 - j) = nI (7 - j) := by rw [show 8 - j = (7 - j) + 1 by omega]; rfl
    rw [ex]
    refine x_iload_n hO dX4_readRule_7 rfl rfl ?_
    refine x_if_lt (tgt := 110) hO dX4_readRule_8 (by decide) (fun c => ?_) (fun c => ?_)
    · exact absurd c (nI_pos (by omega))
    · refine x_aload_n hO dX4_readRule_11 rfl rfl ?_
      refine x_getI (T := TX4) (j := 10) hO dX4_readRule_12 flX4_146 (by decide) rfl rfl (by decide) rfl rfl ?_
      rw [sp_at]
      refine x_aload_n hO dX4_readRule_15 rfl rfl ?_
      refine x_getI (T := TX4) (j := 7) hO dX4_readRule_16 flX4_143 (by decide) rfl rfl (by decide) rfl rfl ?_
      rw [a7]
      have fin : ∀ x : Int32, (p + j < n → x = M 14 (p + j)) → (n ≤ p + j → x = nI 0) → XW U G 35 [some (.inr 9), some (.inl (nI (eV (M 14) p j))), some (.inl (nI (eM (M 14) p j))), some (.inl (nI (7 - j))), l4] [.inl x] (sp M (p + j)) := by
        intro x hx1 hx2
        have hsg : isBt (sg (M 14) n (p + j)) = isBt x := by
          rcases Nat.lt_or_ge (p + j) n with z | z
          · rw [sg_in z, hx1 z]
          · rw [sg_out z, hx2 z]
            decide
        refine x_istore (n := 5) hO dX4_readRule_35 rfl (by decide) hN ?_
        refine x_iload hO dX4_readRule_37 rfl ?_
        refine x_bipush (v := nI 48) hO dX4_readRule_39 rfl ?_
        have go : isBt x = true → XW U G 60 [some (.inr 9), some (.inl (nI (eV (M 14) p j))), some (.inl (nI (eM (M 14) p j))), some (.inl (nI (7 - j))), some (.inl x)] [] (sp M (p + j)) := by
          intro hb
          have hlt := isBt_lt (hsg.trans hb)
          have ih := ih (by rw [← hf, nF_f (P := fun i => !isBt (sg (M 14) n (p + i))) (by show (!isBt (sg (M 14) n (p + j))) = false; rw [hsg, hb]; rfl)]) (by omega) (some (.inl x))
          have xe := hx1 hlt
          have s2 : XW U G 77 [some (.inr 9), some (.inl (nI (eV (M 14) p (j + 1)))), some (.inl (nI (eM (M 14) p j))), some (.inl (nI (7 - j))), some (.inl x)] [] (sp M (p + j)) := by
            have s3 : XW U G 94 [some (.inr 9), some (.inl (nI (eV (M 14) p (j + 1)))), some (.inl (nI (eM (M 14) p (j + 1)))), some (.inl (nI (7 - j))), some (.inl x)] [] (sp M (p + j)) := by
              refine x_aload_n hO dX4_readRule_94 rfl rfl ?_
              refine x_dup hO dX4_readRule_95 ?_
              refine x_getI (T := TX4) (j := 10) hO dX4_readRule_96 flX4_146 (by decide) rfl rfl (by decide) rfl rfl ?_
              rw [sp_at]
              refine x_iconst (v := nI 1) hO dX4_readRule_99 rfl ?_
              refine x_iadd hO dX4_readRule_100 ?_
              refine x_put (T := TX4) (j := 10) (ty := .int) hO dX4_readRule_101 flX4_146 (by decide) rfl rfl (by decide) rfl rfl rfl (by decide +kernel) rfl rfl ?_
              rw [nI_1c, sp_sp]
              refine x_iinc hO dX4_readRule_104 rfl (xm_dec (7 - j)) rfl hN ?_
              refine x_goto (tgt := 7) hO dX4_readRule_107 (by decide) ?_
              rw [show 8 - (j + 1) = 7 - j by omega] at ih
              exact ih
            refine x_iload_n hO dX4_readRule_77 rfl rfl ?_
            refine x_iload hO dX4_readRule_78 rfl ?_
            refine x_bipush (v := nI 42) hO dX4_readRule_80 rfl ?_
            refine x_icmp_ne (tgt := 89) hO dX4_readRule_82 (by decide) (fun c1 => ?_) (fun c1 => ?_)
            · refine x_iconst (v := nI 1) hO dX4_readRule_89 rfl ?_
              refine x_iload_n hO dX4_readRule_90 rfl rfl ?_
              refine x_ishl hO dX4_readRule_91 ?_
              rw [bit_sh _ (by omega)]
              refine x_ior hO dX4_readRule_92 ?_
              have e := eM_or (M 14) p hj
              rw [if_neg (by rw [← xe]; exact c1)] at e
              rw [e]
              refine x_istore_n (n := 5) hO dX4_readRule_93 rfl rfl (by decide) hN ?_
              exact s3
            · refine x_iconst (v := nI 0) hO dX4_readRule_85 rfl ?_
              refine x_goto (tgt := 92) hO dX4_readRule_86 (by decide) ?_
              refine x_ior hO dX4_readRule_92 ?_
              have e := eM_or (M 14) p hj
              rw [if_pos (by rw [← xe]; exact c1)] at e
              rw [e]
              refine x_istore_n (n := 5) hO dX4_readRule_93 rfl rfl (by decide) hN ?_
              exact s3
          refine x_iload_n hO dX4_readRule_60 rfl rfl ?_
          refine x_iload hO dX4_readRule_61 rfl ?_
          refine x_bipush (v := nI 49) hO dX4_readRule_63 rfl ?_
          refine x_icmp_ne (tgt := 74) hO dX4_readRule_65 (by decide) (fun c1 => ?_) (fun c1 => ?_)
          · refine x_iconst (v := nI 0) hO dX4_readRule_74 rfl ?_
            refine x_ior hO dX4_readRule_75 ?_
            have e := eV_or (M 14) p hj
            rw [if_neg (by rw [← xe]; exact c1)] at e
            rw [e]
            refine x_istore_n (n := 5) hO dX4_readRule_76 rfl rfl (by decide) hN ?_
            exact s2
          · refine x_iconst (v := nI 1) hO dX4_readRule_68 rfl ?_
            refine x_iload_n hO dX4_readRule_69 rfl rfl ?_
            refine x_ishl hO dX4_readRule_70 ?_
            rw [bit_sh _ (by omega)]
            refine x_goto (tgt := 75) hO dX4_readRule_71 (by decide) ?_
            refine x_ior hO dX4_readRule_75 ?_
            have e := eV_or (M 14) p hj
            rw [if_pos (by rw [← xe]; exact c1)] at e
            rw [e]
            refine x_istore_n (n := 5) hO dX4_readRule_76 rfl rfl (by decide) hN ?_
            exact s2
        refine x_icmp_eq (tgt := 60) hO dX4_readRule_41 (by decide) (fun c1 => ?_) (fun c1 => ?_)
        · exact go (by unfold isBt; rw [c1]; rfl)
        · refine x_iload hO dX4_readRule_44 rfl ?_
          refine x_bipush (v := nI 49) hO dX4_readRule_46 rfl ?_
          refine x_icmp_eq (tgt := 60) hO dX4_readRule_48 (by decide) (fun c2 => ?_) (fun c2 => ?_)
          · exact go (by unfold isBt; rw [c2]; rfl)
          · refine x_iload hO dX4_readRule_51 rfl ?_
            refine x_bipush (v := nI 42) hO dX4_readRule_53 rfl ?_
            refine x_icmp_eq (tgt := 60) hO dX4_readRule_55 (by decide) (fun c3 => ?_) (fun c3 => ?_)
            · exact go (by unfold isBt; rw [c3]; rfl)
            · have nb : isBt x = false := by unfold isBt; simp [c1, c2, c3]
              have e : rE (M 14) n p = j := by rw [← hf, nF_t (P := fun i => !isBt (sg (M 14) n (p + i))) (by show (!isBt (sg (M 14) n (p + j))) = true; rw [hsg, nb]; rfl)]
              refine x_iconst (v := nI 0) hO dX4_readRule_58 rfl ?_
              refine x_iret hO hR dX4_readRule_59 rfl ?_
              exact bad _ (by unfold rEnd; rw [if_neg (by omega), e]) (by unfold rOK; rw [decide_eq_false (by omega)]; rfl)
      refine x_icmp_ge (tgt := 34) hO dX4_readRule_19 (by decide) (fun c2 => ?_) (fun c2 => ?_)
      · have q : n ≤ p + j := (nI_leI (by omega) (by omega)).mp c2
        refine x_iconst (v := nI 0) hO dX4_readRule_34 rfl ?_
        exact fin _ (fun z => by omega) (fun _ => rfl)
      · have q : p + j < n := Nat.not_le.mp (fun z => c2 ((nI_leI (by omega) (by omega)).mpr z))
        have q6 : p + j < 60 := by omega
        refine x_aload_n hO dX4_readRule_22 rfl rfl ?_
        refine x_getR (T := TX4) (j := 6) hO dX4_readRule_23 flX4_22 (by decide) rfl rfl (by decide) rfl rfl ?_
        refine x_aload_n hO dX4_readRule_26 rfl rfl ?_
        refine x_getI (T := TX4) (j := 10) hO dX4_readRule_27 flX4_146 (by decide) rfl rfl (by decide) rfl rfl ?_
        rw [sp_at]
        refine x_iald hO (by decide) rfl (by decide) (rfl) (q6) dX4_readRule_30 ?_
        rw [a14]
        refine x_goto (tgt := 35) hO dX4_readRule_31 (by decide) ?_
        exact fin _ (fun _ => rfl) (fun z => by omega)
