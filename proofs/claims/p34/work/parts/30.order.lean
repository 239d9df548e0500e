/-! ===== the law's isInOrder ===== -/
theorem q_in_at {A : aR} {w i : Nat} (hi : i < 32) : q_in A w (nI i) = if aoc A i then A i w else -4 := by
  unfold q_in
  rw [ixB_n hi (by decide), nI_clamp (by omega)]
  rfl
theorem q_in_t {A : aR} {w i : Nat} (hi : i < 32) (h : aoc A i = true) : q_in A w (nI i) = A i w := by rw [q_in_at hi, if_pos h]
theorem q_in_f {A : aR} {w i : Nat} (hi : i < 32) (h : aoc A i = false) : q_in A w (nI i) = -4 := by
  rw [q_in_at hi, if_neg]
  rw [h]
  decide
/-- rank and rule of the last entry below i -/
def la (A : aR) : Nat → Int32 × Int32
  | 0 => (nI 0, -1)
  | i + 1 => if aoc A i then (A i 4, A i 0) else la A i
theorem la_is (A : aR) : ∀ i, la A i = (nI 0, -1) ∨ ∃ t, t < i ∧ aoc A t = true ∧ la A i = (A t 4, A t 0)
  | 0 => Or.inl rfl
  | i + 1 => by
    by_cases h : aoc A i = true
    · exact Or.inr ⟨i, by omega, h, by simp only [la]; rw [if_pos h]⟩
    · have e : la A (i + 1) = la A i := by simp only [la]; rw [if_neg h]
      rw [e]
      rcases la_is A i with q | ⟨t, t1, t2, t3⟩
      · exact Or.inl q
      · exact Or.inr ⟨t, by omega, t2, t3⟩
theorem la_ok {A : aR} {a i : Nat} (w : wfA A a) (ha : a < 2 ^ 31) (o : ordA A) (h : aoc A i = true) : ¬ A i 4 < (la A i).1 ∧ (¬ (la A i).1 < A i 4 → ¬ A i 0 < (la A i).2) := by
  obtain ⟨r, r1, r2⟩ := (w.2.2.2.1 i h).1
  obtain ⟨⟨k, k1, k2⟩, -⟩ := o.2.2.2 i h
  rcases la_is A i with q | ⟨t, t1, t2, t3⟩
  · rw [q, r2, k2]
    refine ⟨nI_nlt (Nat.zero_le _) (by omega), fun _ z => ?_⟩
    have h1 : (nI r).toInt < (-1 : Int32).toInt := Int32.lt_iff_toInt_lt.mp z
    rw [nI_toInt (by omega)] at h1
    have : (-1 : Int32).toInt = -1 := by decide
    omega
  · rw [t3]
    have h1 := w.1 t i t1 t2 h
    refine ⟨Int32.not_lt.mpr h1, fun z => ?_⟩
    exact Int32.not_lt.mpr (o.1 t i t1 t2 h (Int32.le_antisymm h1 (Int32.not_lt.mp z)))
theorem slot_step {A : aR} {a : Nat} (w : wfA A a) (o : ordA A) {r : Int32} {p : Nat} (h : p + 1 < nC (pRule A r) 32) : ∃ t t', t < 32 ∧ t' < t ∧ aoc A t = true ∧ A t 0 = r ∧ q_slotOf A r (nI (p + 1)) = nI t ∧ q_slotOf A r (nI p) = nI t' := by
  obtain ⟨t, t1, t2, t3, t4, t5⟩ := q_slot_at w o h
  obtain ⟨u, u1, u2, u3, u4, u5⟩ := q_slot_at w o (p := p) (r := r) (by omega)
  refine ⟨t, u, t1, ?_, t2, t3, t5, u5⟩
  rcases Nat.lt_or_ge u t with z | z
  · exact z
  · have := nC_mono (P := pRule A r) z
    omega
theorem nI_nle' {a b : Nat} (h : a < b) (hb : b < 2 ^ 31) : ¬ nI b ≤ nI a := nI_ge h hb
theorem q_total_2 (s : aO) : q_total s (nI 2) = s.1.2 1 := rfl
theorem q_total_0 (s : aO) : q_total s (nI 0) = nI (aCnt s.1.1) := rfl
theorem q_total_1 (s : aO) : q_total s (nI 1) = nI (nC (pP0 s.1.1) 32) := rfl
theorem l_isInOrder (U : xP) (M : xM) {s : aO} (h : RC M s) {B : Nat} (g : Wg s.1 B) (hB : B < 2 ^ 30) : xMetI U mL_isInOrder [.inr 0] M (quC M (nI 1)) := by
  obtain ⟨⟨a, a1, a2, w⟩, o, -⟩ := g
  refine xMetI.of (ty := .boolean) (L := [some (.inr 0), none, none, none, none, none, none, none, none, none, none, none]) fL_isInOrder rfl rfl (Nat.le_of_ble_eq_true rfl) (fun G hN hO hR => ?_)
  have hN : G.2.2.2.2.2.2.2.2.2.2.1 = 12 := hN
  have hO : xOK U G RL cL_isInOrder 5 := hO
  refine x_iconst (v := nI 0) hO dL_isInOrder_0 rfl ?_
  refine x_istore_n (n := 12) hO dL_isInOrder_1 rfl rfl (by decide) hN ?_
  refine x_iconst (v := (-1 : Int32)) hO dL_isInOrder_2 rfl ?_
  refine x_istore_n (n := 12) hO dL_isInOrder_3 rfl rfl (by decide) hN ?_
  refine x_iconst (v := nI 0) hO dL_isInOrder_4 rfl ?_
  refine x_istore_n (n := 12) hO dL_isInOrder_5 rfl rfl (by decide) hN ?_
  refine x_iconst (v := nI 0) hO dL_isInOrder_6 rfl ?_
  refine x_istore (n := 12) hO dL_isInOrder_7 rfl (by decide) hN ?_
  refine x_iconst (v := nI 1) hO dL_isInOrder_9 rfl ?_
  refine x_istore (n := 12) hO dL_isInOrder_10 rfl (by decide) hN ?_
  refine x_iconst (v := nI 0) hO dL_isInOrder_12 rfl ?_
  refine x_istore (n := 12) hO dL_isInOrder_13 rfl (by decide) hN ?_
  refine upd_ind (P := fun i _ => ∀ x7 x8 x9 x10 x11 : Option xV, XW U G 15 [some (.inr 0), some (.inl (la s.1.1 i).1), some (.inl (la s.1.1 i).2), some (.inl (nI (nC (aoc s.1.1) i))), some (.inl (nI (nC (pP0 s.1.1) i))), some (.inl (nI 1)), some (.inl (nI i)), x7, x8, x9, x10, x11] [] M) 32 ?_ ?_ 32 0 rfl none none none none none
  · intro x7 x8 x9 x10 x11
    refine x_iload hO dL_isInOrder_15 rfl ?_
    refine x_bipush (v := nI 32) hO dL_isInOrder_17 rfl ?_
    refine x_icmp_ge (tgt := 234) hO dL_isInOrder_19 (by decide) (fun _ => ?_) (fun c => absurd (Int32.le_refl _) c)
    refine x_iload hO dL_isInOrder_234 rfl ?_
    refine x_if_eq (tgt := 262) hO dL_isInOrder_236 (by decide) (fun c => absurd c (nI_ne0 (by decide) (by decide))) (fun _ => ?_)
    refine x_iload_n hO dL_isInOrder_239 rfl rfl ?_
    refine x_aload_n hO dL_isInOrder_240 rfl rfl ?_
    refine x_iconst (v := nI 0) hO dL_isInOrder_241 rfl ?_
    refine x_callV1 hO (kc_total U M h (nI 0)) dL_isInOrder_242 lkL_13 fX3_total vX3_total (by decide) rfl rfl rfl rfl rfl (by decide) (Nat.le_of_ble_eq_true rfl) ?_
    rw [q_total_0]
    refine x_icmp_ne (tgt := 262) hO dL_isInOrder_245 (by decide) (fun c => absurd rfl c) (fun _ => ?_)
    refine x_iload hO dL_isInOrder_248 rfl ?_
    refine x_aload_n hO dL_isInOrder_250 rfl rfl ?_
    refine x_iconst (v := nI 1) hO dL_isInOrder_251 rfl ?_
    refine x_callV1 hO (kc_total U M h (nI 1)) dL_isInOrder_252 lkL_13 fX3_total vX3_total (by decide) rfl rfl rfl rfl rfl (by decide) (Nat.le_of_ble_eq_true rfl) ?_
    rw [q_total_1]
    refine x_icmp_ne (tgt := 262) hO dL_isInOrder_255 (by decide) (fun c => absurd rfl c) (fun _ => ?_)
    refine x_iconst (v := nI 1) hO dL_isInOrder_258 rfl ?_
    refine x_goto (tgt := 263) hO dL_isInOrder_259 (by decide) ?_
    refine x_iret hO hR dL_isInOrder_263 rfl ?_
    exact ⟨rfl, rfl⟩
  · intro i d hd ih x7 x8 x9 x10 x11
    have hi : i < 32 := by omega
    refine x_iload hO dL_isInOrder_15 rfl ?_
    refine x_bipush (v := nI 32) hO dL_isInOrder_17 rfl ?_
    refine x_icmp_ge (tgt := 234) hO dL_isInOrder_19 (by decide) (fun c => absurd c (nI_ge hi (by decide))) (fun _ => ?_)
    refine x_iload hO dL_isInOrder_22 rfl ?_
    refine x_if_eq (tgt := 234) hO dL_isInOrder_24 (by decide) (fun c => absurd c (nI_ne0 (by decide) (by decide))) (fun _ => ?_)
    refine x_aload_n hO dL_isInOrder_27 rfl rfl ?_
    refine x_iload hO dL_isInOrder_28 rfl ?_
    refine x_callV1 hO (kc_ruleIn U M h (nI i)) dL_isInOrder_30 lkL_19 fX3_ruleIn vX3_ruleIn (by decide) rfl rfl rfl rfl rfl (by decide) (Nat.le_of_ble_eq_true rfl) ?_
    by_cases ho : aoc s.1.1 i = true
    · obtain ⟨r, r1, r2⟩ := (w.2.2.2.1 i ho).1
      obtain ⟨⟨k, k1, k2⟩, ac, c1, c2⟩ := o.2.2.2 i ho
      obtain ⟨e4, e5⟩ := q_of_45 w o ho
      have ep := q_parts_is w ho
      have e0 := q_slot_0 w o ho
      obtain ⟨l1, l2⟩ := la_ok w (by omega) o ho
      have hn := nC_rule_pos w ho
      have hn2 := nC_le (pRule s.1.1 (s.1.1 i 0)) 32
      have eno := q_slot_no o (r := s.1.1 i 0) (p := nC (pRule s.1.1 (s.1.1 i 0)) 32) (by omega) (Nat.le_refl _)
      have est : ∀ p, p + 1 < nC (pRule s.1.1 (s.1.1 i 0)) 32 → ∃ t t', t < 32 ∧ t' < t ∧ aoc s.1.1 t = true ∧ s.1.1 t 0 = s.1.1 i 0 ∧ q_slotOf s.1.1 (s.1.1 i 0) (nI (p + 1)) = nI t ∧ q_slotOf s.1.1 (s.1.1 i 0) (nI p) = nI t' := fun p hp => slot_step w o hp
      have hla : la s.1.1 (i + 1) = (s.1.1 i 4, s.1.1 i 0) := by simp only [la]; rw [if_pos ho]
      have hcnt : nC (aoc s.1.1) (i + 1) = nC (aoc s.1.1) i + 1 := nC_t ho
      rw [hla, hcnt] at ih
      rw [q_in_t hi ho]
      generalize hNN : nC (pRule s.1.1 (s.1.1 i 0)) 32 = N at *
      rw [r2] at e4 e5 ep e0 l2 eno est ih ⊢
      rw [k2] at e4 l1 l2 ih
      rw [c2] at e5
      generalize la s.1.1 i = lai at *
      refine x_istore (n := 12) hO dL_isInOrder_33 rfl (by decide) hN ?_
      refine x_iload hO dL_isInOrder_35 rfl ?_
      refine x_if_lt (tgt := 228) hO dL_isInOrder_37 (by decide) (fun c => absurd c (nI_pos (by omega))) (fun _ => ?_)
      refine x_aload_n hO dL_isInOrder_40 rfl rfl ?_
      refine x_iload hO dL_isInOrder_41 rfl ?_
      refine x_callV1 hO (kc_rank U M h (nI r)) dL_isInOrder_43 lkL_32 fX3_rank vX3_rank (by decide) rfl rfl rfl rfl rfl (by decide) (Nat.le_of_ble_eq_true rfl) ?_
      rw [e4]
      refine x_istore (n := 12) hO dL_isInOrder_46 rfl (by decide) hN ?_
      refine x_aload_n hO dL_isInOrder_48 rfl rfl ?_
      refine x_iload hO dL_isInOrder_49 rfl ?_
      refine x_callV1 hO (kc_parts U M h (nI r)) dL_isInOrder_51 lkL_38 fX3_parts vX3_parts (by decide) rfl rfl rfl rfl rfl (by decide) (Nat.le_of_ble_eq_true rfl) ?_
      rw [ep]
      refine x_istore (n := 12) hO dL_isInOrder_54 rfl (by decide) hN ?_
      refine x_iload hO dL_isInOrder_56 rfl ?_
      refine x_iload_n hO dL_isInOrder_58 rfl rfl ?_
      refine x_icmp_lt (tgt := 132) hO dL_isInOrder_59 (by decide) (fun c => absurd c (l1)) (fun _ => ?_)
      refine x_iload hO dL_isInOrder_62 rfl ?_
      refine x_bipush (v := nI 100) hO dL_isInOrder_64 rfl ?_
      refine x_icmp_ge (tgt := 132) hO dL_isInOrder_66 (by decide) (fun c => absurd c (nI_ge k1 (by decide))) (fun _ => ?_)
      refine x_iload hO dL_isInOrder_69 rfl ?_
      refine x_iload_n hO dL_isInOrder_71 rfl rfl ?_
      have j219 : ∀ x10 x11 : Option xV, XW U G 219 [some (.inr 0), some (.inl lai.1), some (.inl lai.2), some (.inl (nI (nC (aoc s.1.1) i))), some (.inl (nI (nC (pP0 s.1.1) (i + 1)))), some (.inl (nI 1)), some (.inl (nI i)), some (.inl (nI r)), some (.inl (nI k)), some (.inl (nI N)), x10, x11] [] M := by
        intro x10 x11
        refine x_iload hO dL_isInOrder_219 rfl ?_
        refine x_istore_n (n := 12) hO dL_isInOrder_221 rfl rfl (by decide) hN ?_
        refine x_iload hO dL_isInOrder_222 rfl ?_
        refine x_istore_n (n := 12) hO dL_isInOrder_224 rfl rfl (by decide) hN ?_
        refine x_iinc hO dL_isInOrder_225 rfl (by first | exact xinc_n _ | rfl) rfl hN ?_
        refine x_iinc hO dL_isInOrder_228 rfl (by first | exact xinc_n _ | rfl) rfl hN ?_
        refine x_goto (tgt := 15) hO dL_isInOrder_231 (by decide) ?_
        exact ih _ _ _ _ _
      have j81 : XW U G 81 [some (.inr 0), some (.inl lai.1), some (.inl lai.2), some (.inl (nI (nC (aoc s.1.1) i))), some (.inl (nI (nC (pP0 s.1.1) i))), some (.inl (nI 1)), some (.inl (nI i)), some (.inl (nI r)), some (.inl (nI k)), some (.inl (nI N)), x10, x11] [] M := by
        refine x_iload hO dL_isInOrder_81 rfl ?_
        refine x_if_le (tgt := 132) hO dL_isInOrder_83 (by decide) (fun c => absurd c (nI_nle hn (by omega))) (fun _ => ?_)
        refine x_aload_n hO dL_isInOrder_86 rfl rfl ?_
        refine x_iload hO dL_isInOrder_87 rfl ?_
        refine x_callV1 hO (kc_action U M h (nI r)) dL_isInOrder_89 lkL_29 fX3_action vX3_action (by decide) rfl rfl rfl rfl rfl (by decide) (Nat.le_of_ble_eq_true rfl) ?_
        rw [e5]
        refine x_if_lt (tgt := 132) hO dL_isInOrder_92 (by decide) (fun c => absurd c (nI_pos (by omega))) (fun _ => ?_)
        refine x_aload_n hO dL_isInOrder_95 rfl rfl ?_
        refine x_iload hO dL_isInOrder_96 rfl ?_
        refine x_callV1 hO (kc_action U M h (nI r)) dL_isInOrder_98 lkL_29 fX3_action vX3_action (by decide) rfl rfl rfl rfl rfl (by decide) (Nat.le_of_ble_eq_true rfl) ?_
        rw [e5]
        refine x_bipush (v := nI 10) hO dL_isInOrder_101 rfl ?_
        refine x_icmp_ge (tgt := 132) hO dL_isInOrder_103 (by decide) (fun c => absurd c (nI_ge c1 (by decide))) (fun _ => ?_)
        refine x_iload hO dL_isInOrder_106 rfl ?_
        refine x_aload_n hO dL_isInOrder_108 rfl rfl ?_
        refine x_iconst (v := nI 2) hO dL_isInOrder_109 rfl ?_
        refine x_callV1 hO (kc_total U M h (nI 2)) dL_isInOrder_110 lkL_13 fX3_total vX3_total (by decide) rfl rfl rfl rfl rfl (by decide) (Nat.le_of_ble_eq_true rfl) ?_
        rw [q_total_2, a2]
        refine x_icmp_ge (tgt := 132) hO dL_isInOrder_113 (by decide) (fun c => absurd c (nI_ge r1 (by omega))) (fun _ => ?_)
        refine x_aload_n hO dL_isInOrder_116 rfl rfl ?_
        refine x_iload hO dL_isInOrder_117 rfl ?_
        refine x_iload hO dL_isInOrder_119 rfl ?_
        refine x_callV1 hO (kc_slotOf U M h (nI r) (nI N)) dL_isInOrder_121 lkL_41 fX3_slotOf vX3_slotOf (by decide) rfl rfl rfl rfl rfl (by decide) (Nat.le_of_ble_eq_true rfl) ?_
        rw [eno]
        refine x_iconst (v := (-1 : Int32)) hO dL_isInOrder_124 rfl ?_
        refine x_icmp_ne (tgt := 132) hO dL_isInOrder_125 (by decide) (fun c => absurd rfl c) (fun _ => ?_)
        refine x_iconst (v := nI 1) hO dL_isInOrder_128 rfl ?_
        refine x_goto (tgt := 133) hO dL_isInOrder_129 (by decide) ?_
        refine x_istore (n := 12) hO dL_isInOrder_133 rfl (by decide) hN ?_
        refine x_iload hO dL_isInOrder_135 rfl ?_
        refine x_if_eq (tgt := 219) hO dL_isInOrder_137 (by decide) (fun c => absurd c (nI_ne0 (by decide) (by decide))) (fun _ => ?_)
        refine x_aload_n hO dL_isInOrder_140 rfl rfl ?_
        refine x_iload hO dL_isInOrder_141 rfl ?_
        refine x_iconst (v := nI 0) hO dL_isInOrder_143 rfl ?_
        refine x_callV1 hO (kc_slotOf U M h (nI r) (nI 0)) dL_isInOrder_144 lkL_41 fX3_slotOf vX3_slotOf (by decide) rfl rfl rfl rfl rfl (by decide) (Nat.le_of_ble_eq_true rfl) ?_
        refine x_iload hO dL_isInOrder_147 rfl ?_
        by_cases hp0 : pP0 s.1.1 i = true
        · have hc0 : nC (pP0 s.1.1) (i + 1) = nC (pP0 s.1.1) i + 1 := nC_t hp0
          rw [hc0] at j219
          rw [e0.mpr hp0]
          refine x_icmp_ne (tgt := 219) hO dL_isInOrder_149 (by decide) (fun c => absurd rfl c) (fun _ => ?_)
          refine x_iinc hO dL_isInOrder_152 rfl (by first | exact xinc_n _ | rfl) rfl hN ?_
          refine x_iconst (v := nI 1) hO dL_isInOrder_155 rfl ?_
          refine x_istore (n := 12) hO dL_isInOrder_156 rfl (by decide) hN ?_
          refine upd_ind (P := fun p _ => 0 < p → ∀ x11 : Option xV, XW U G 158 [some (.inr 0), some (.inl lai.1), some (.inl lai.2), some (.inl (nI (nC (aoc s.1.1) i))), some (.inl (nI (nC (pP0 s.1.1) i + 1))), some (.inl (nI 1)), some (.inl (nI i)), some (.inl (nI r)), some (.inl (nI k)), some (.inl (nI N)), some (.inl (nI p)), x11] [] M) N ?_ ?_ (N - 1) 1 (by omega) (by decide) _
          · intro _ y11
            refine x_iload hO dL_isInOrder_158 rfl ?_
            refine x_iload hO dL_isInOrder_160 rfl ?_
            refine x_icmp_ge (tgt := 219) hO dL_isInOrder_162 (by decide) (fun _ => ?_) (fun c => absurd (Int32.le_refl _) c)
            exact j219 _ _
          · intro p d' hd' ihp hp y11
            obtain ⟨p, rfl⟩ : ∃ q, p = q + 1 := ⟨p - 1, by omega⟩
            obtain ⟨t, t', t1, t2, t3, t4, t5, t6⟩ := est p (by omega)
            refine x_iload hO dL_isInOrder_158 rfl ?_
            refine x_iload hO dL_isInOrder_160 rfl ?_
            refine x_icmp_ge (tgt := 219) hO dL_isInOrder_162 (by decide) (fun c => absurd c (nI_ge (by omega) (by omega))) (fun _ => ?_)
            refine x_iload hO dL_isInOrder_165 rfl ?_
            refine x_if_eq (tgt := 219) hO dL_isInOrder_167 (by decide) (fun c => absurd c (nI_ne0 (by decide) (by decide))) (fun _ => ?_)
            refine x_aload_n hO dL_isInOrder_170 rfl rfl ?_
            refine x_iload hO dL_isInOrder_171 rfl ?_
            refine x_iload hO dL_isInOrder_173 rfl ?_
            refine x_callV1 hO (kc_slotOf U M h (nI r) (nI (p + 1))) dL_isInOrder_175 lkL_41 fX3_slotOf vX3_slotOf (by decide) rfl rfl rfl rfl rfl (by decide) (Nat.le_of_ble_eq_true rfl) ?_
            rw [t5]
            refine x_istore (n := 12) hO dL_isInOrder_178 rfl (by decide) hN ?_
            refine x_iload hO dL_isInOrder_180 rfl ?_
            refine x_aload_n hO dL_isInOrder_182 rfl rfl ?_
            refine x_iload hO dL_isInOrder_183 rfl ?_
            refine x_iload hO dL_isInOrder_185 rfl ?_
            refine x_iconst (v := nI 1) hO dL_isInOrder_187 rfl ?_
            refine x_isub hO dL_isInOrder_188 ?_
            rw [nI_sub1]
            refine x_callV1 hO (kc_slotOf U M h (nI r) (nI p)) dL_isInOrder_189 lkL_41 fX3_slotOf vX3_slotOf (by decide) rfl rfl rfl rfl rfl (by decide) (Nat.le_of_ble_eq_true rfl) ?_
            rw [t6]
            refine x_icmp_le (tgt := 210) hO dL_isInOrder_192 (by decide) (fun c => absurd c (nI_nle' t2 (by omega))) (fun _ => ?_)
            refine x_aload_n hO dL_isInOrder_195 rfl rfl ?_
            refine x_iload hO dL_isInOrder_196 rfl ?_
            refine x_callV1 hO (kc_ruleIn U M h (nI t)) dL_isInOrder_198 lkL_19 fX3_ruleIn vX3_ruleIn (by decide) rfl rfl rfl rfl rfl (by decide) (Nat.le_of_ble_eq_true rfl) ?_
            rw [q_in_t t1 t3, t4]
            refine x_iload hO dL_isInOrder_201 rfl ?_
            refine x_icmp_ne (tgt := 210) hO dL_isInOrder_203 (by decide) (fun c => absurd rfl c) (fun _ => ?_)
            refine x_iconst (v := nI 1) hO dL_isInOrder_206 rfl ?_
            refine x_goto (tgt := 211) hO dL_isInOrder_207 (by decide) ?_
            refine x_istore (n := 12) hO dL_isInOrder_211 rfl (by decide) hN ?_
            refine x_iinc hO dL_isInOrder_213 rfl (by first | exact xinc_n _ | rfl) rfl hN ?_
            refine x_goto (tgt := 158) hO dL_isInOrder_216 (by decide) ?_
            exact ihp (by omega) _
        · have hc0 : nC (pP0 s.1.1) (i + 1) = nC (pP0 s.1.1) i := nC_f (by simpa using hp0)
          rw [hc0] at j219
          refine x_icmp_ne (tgt := 219) hO dL_isInOrder_149 (by decide) (fun _ => ?_) (fun c => absurd c (fun z => hp0 (e0.mp z)))
          exact j219 _ _
      refine x_icmp_gt (tgt := 81) hO dL_isInOrder_72 (by decide) (fun cg => ?_) (fun cg => ?_)
      · exact j81
      · refine x_iload hO dL_isInOrder_75 rfl ?_
        refine x_iload_n hO dL_isInOrder_77 rfl rfl ?_
        refine x_icmp_lt (tgt := 132) hO dL_isInOrder_78 (by decide) (fun c => absurd c (l2 cg)) (fun _ => ?_)
        exact j81
    · have ho : aoc s.1.1 i = false := by simpa using ho
      rw [q_in_f hi ho]
      refine x_istore (n := 12) hO dL_isInOrder_33 rfl (by decide) hN ?_
      refine x_iload hO dL_isInOrder_35 rfl ?_
      refine x_if_lt (tgt := 228) hO dL_isInOrder_37 (by decide) (fun _ => ?_) (fun c => absurd (by decide) c)
      refine x_iinc hO dL_isInOrder_228 rfl (by first | exact xinc_n _ | rfl) rfl hN ?_
      refine x_goto (tgt := 15) hO dL_isInOrder_231 (by decide) ?_
      have hp0 : pP0 s.1.1 i = false := by simp [pP0, ho]
      have hla : la s.1.1 (i + 1) = la s.1.1 i := by simp only [la]; rw [ho]; rfl
      have hcnt : nC (aoc s.1.1) (i + 1) = nC (aoc s.1.1) i := nC_f ho
      have hc0 : nC (pP0 s.1.1) (i + 1) = nC (pP0 s.1.1) i := nC_f hp0
      rw [hla, hcnt, hc0] at ih
      exact ih _ _ _ _ _
