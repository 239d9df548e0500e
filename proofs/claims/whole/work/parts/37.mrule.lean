/-! ===== rules by their slots ===== -/
/-- the last slot, 32 if there is none -/
def sW (P : Nat → Bool) (i : Nat) : Nat := if nL P i = 0 then 32 else nL P i - 1
theorem sW_t {P : Nat → Bool} {i : Nat} (h : P i = true) : sW P (i + 1) = i := by unfold sW; rw [nL_t h]; simp
theorem sW_f {P : Nat → Bool} {i : Nat} (h : P i = false) : sW P (i + 1) = sW P i := by unfold sW; rw [nL_f h]
theorem sW_uni {P : Nat → Bool} (h : ∀ s t, s < 32 → t < 32 → P s = true → P t = true → s = t) : sW P 32 = nF P 0 32 := by
  unfold sW
  split
  · rename_i q
    refine (nF_eq (by omega) (by omega) (fun j _ hj => nL_no (n := 32) (by omega) hj) (fun z => by omega)).symm
  · rename_i q
    have l := nL_le (P := P) 32
    obtain ⟨j, hj⟩ : ∃ j, nL P 32 = j + 1 := ⟨nL P 32 - 1, by omega⟩
    have y := nL_yes hj
    rw [hj]
    refine (nF_eq (by omega) (by omega) (fun i _ hi => ?_) (fun _ => y)).symm
    cases e : P i with
    | false => rfl
    | true =>
      have := h i j (by omega) (by omega) e y
      omega
theorem m_slotWith0 (U : xP) (M : xM) (x y : Int32) : xMetI U mX4_slotWith [.inr 9, .inl x, .inl y] M (fun r M' => r = nI (sW (pPart (nA M) x y) 32) ∧ M' = M) := by
  refine xMetI.of (ty := .int) (L := [some (.inr 9), some (.inl x), some (.inl y), none, none]) fX4_slotWith rfl rfl (Nat.le_of_ble_eq_true rfl) (fun G hN hO hR => ?_)
  have hN : G.2.2.2.2.2.2.2.2.2.2.1 = 5 := hN
  have hO : xOK U G RX4 cX4_slotWith 1 := hO
  refine x_bipush (v := nI 32) hO dX4_slotWith_0 rfl ?_
  refine x_istore_n (n := 5) hO dX4_slotWith_2 rfl rfl (by decide) hN ?_
  refine x_iconst (v := nI 0) hO dX4_slotWith_3 rfl ?_
  refine x_istore (n := 5) hO dX4_slotWith_4 rfl (by decide) hN ?_
  refine upd_ind (P := fun i _ => XW U G 6 [some (.inr 9), some (.inl x), some (.inl y), some (.inl (nI (sW (pPart (nA M) x y) i))), some (.inl (nI i))] [] M) 32 ?_ ?_ 32 0 rfl
  · refine x_iload hO dX4_slotWith_6 rfl ?_
    refine x_bipush (v := nI 32) hO dX4_slotWith_8 rfl ?_
    refine x_icmp_ge (tgt := 59) hO dX4_slotWith_10 (by decide) (fun c => ?_) (fun c => ?_)
    · refine x_iload_n hO dX4_slotWith_59 rfl rfl ?_
      refine x_iret hO hR dX4_slotWith_60 rfl ?_
      exact ⟨rfl, rfl⟩
    · exact absurd (Int32.le_refl _) c
  · intro i d hd ih
    have hi : i < 32 := by omega
    refine x_iload hO dX4_slotWith_6 rfl ?_
    refine x_bipush (v := nI 32) hO dX4_slotWith_8 rfl ?_
    refine x_icmp_ge (tgt := 59) hO dX4_slotWith_10 (by decide) (fun c => ?_) (fun c => ?_)
    · exact absurd c (nI_ge hi (by decide))
    · refine x_aload_n hO dX4_slotWith_13 rfl rfl ?_
      refine x_iload hO dX4_slotWith_14 rfl ?_
      refine x_callV1 hO (m_isFree U M hi) dX4_slotWith_16 lkX4_51 fX4_isFree vX4_isFree (by decide) rfl rfl rfl rfl rfl (by decide) (Nat.le_of_ble_eq_true rfl) ?_
      refine x_if_ne (tgt := 51) hO dX4_slotWith_19 (by decide) (fun c2 => ?_) (fun c2 => ?_)
      · have e : aoc (nA M) i = false := by simpa using bI_1 c2
        rw [sW_f (by simp [pPart, e])] at ih
        refine x_iload_n hO dX4_slotWith_51 rfl rfl ?_
        refine x_istore_n (n := 5) hO dX4_slotWith_52 rfl rfl (by decide) hN ?_
        refine x_iinc hO dX4_slotWith_53 rfl (by first | exact xinc_n _ | rfl) rfl hN ?_
        refine x_goto (tgt := 6) hO dX4_slotWith_56 (by decide) ?_
        exact ih
      · have e : aoc (nA M) i = true := by simpa using bI_0 c2
        have e0 : M 10 (7 * i) - nI 1 = nA M i 0 := by have := mA_0 (M := M) e; rwa [Nat.zero_add] at this
        refine x_aload_n hO dX4_slotWith_22 rfl rfl ?_
        refine x_iload hO dX4_slotWith_23 rfl ?_
        refine x_iconst (v := nI 0) hO dX4_slotWith_25 rfl ?_
        refine x_callV1 hO (m_at_r U M hi) dX4_slotWith_26 lkX4_55 fX4_at vX4_at (by decide) rfl rfl rfl rfl rfl (by decide) (Nat.le_of_ble_eq_true rfl) ?_
        refine x_iconst (v := nI 1) hO dX4_slotWith_29 rfl ?_
        refine x_isub hO dX4_slotWith_30 ?_
        rw [e0]
        refine x_iload_n hO dX4_slotWith_31 rfl rfl ?_
        refine x_icmp_ne (tgt := 51) hO dX4_slotWith_32 (by decide) (fun c3 => ?_) (fun c3 => ?_)
        · rw [sW_f (by simp [pPart, c3])] at ih
          refine x_iload_n hO dX4_slotWith_51 rfl rfl ?_
          refine x_istore_n (n := 5) hO dX4_slotWith_52 rfl rfl (by decide) hN ?_
          refine x_iinc hO dX4_slotWith_53 rfl (by first | exact xinc_n _ | rfl) rfl hN ?_
          refine x_goto (tgt := 6) hO dX4_slotWith_56 (by decide) ?_
          exact ih
        · refine x_aload_n hO dX4_slotWith_35 rfl rfl ?_
          refine x_iload hO dX4_slotWith_36 rfl ?_
          refine x_iconst (v := nI 1) hO dX4_slotWith_38 rfl ?_
          refine x_callV1 hO (m_at U M e (w := 1) (by decide) (by decide)) dX4_slotWith_39 lkX4_55 fX4_at vX4_at (by decide) rfl rfl rfl rfl rfl (by decide) (Nat.le_of_ble_eq_true rfl) ?_
          refine x_iload_n hO dX4_slotWith_42 rfl rfl ?_
          refine x_icmp_ne (tgt := 51) hO dX4_slotWith_43 (by decide) (fun c4 => ?_) (fun c4 => ?_)
          · rw [sW_f (by simp [pPart, c4])] at ih
            refine x_iload_n hO dX4_slotWith_51 rfl rfl ?_
            refine x_istore_n (n := 5) hO dX4_slotWith_52 rfl rfl (by decide) hN ?_
            refine x_iinc hO dX4_slotWith_53 rfl (by first | exact xinc_n _ | rfl) rfl hN ?_
            refine x_goto (tgt := 6) hO dX4_slotWith_56 (by decide) ?_
            exact ih
          · rw [sW_t (by simp [pPart, e, c3, c4])] at ih
            refine x_iload hO dX4_slotWith_46 rfl ?_
            refine x_goto (tgt := 52) hO dX4_slotWith_48 (by decide) ?_
            refine x_istore_n (n := 5) hO dX4_slotWith_52 rfl rfl (by decide) hN ?_
            refine x_iinc hO dX4_slotWith_53 rfl (by first | exact xinc_n _ | rfl) rfl hN ?_
            refine x_goto (tgt := 6) hO dX4_slotWith_56 (by decide) ?_
            exact ih
theorem wf_part {A : aR} {a : Nat} (w : wfA A a) (x y : Int32) : sW (pPart A x y) 32 = nF (pPart A x y) 0 32 := sW_uni (fun s t hs ht h1 h2 => by
  simp only [pPart, Bool.and_eq_true, beq_iff_eq] at h1 h2
  exact w.2.2.2.2 s t h1.1 h2.1 (by rw [h1.2.1, h2.2.1]) (by rw [h1.2.2, h2.2.2]))
theorem m_slotWith (U : xP) (M : xM) {a : Nat} (w : wfA (nA M) a) (x y : Int32) : xMetI U mX4_slotWith [.inr 9, .inl x, .inl y] M (fun r M' => r = nI (nF (pPart (nA M) x y) 0 32) ∧ M' = M) := by
  have h := m_slotWith0 U M x y
  rw [wf_part w] at h
  exact h
/-- there is the rule x -/
def isR (A : aR) (x : Int32) : Bool := decide (nF (pPart A x 0) 0 32 < 32)
theorem nF_32 (P : Nat → Bool) : nF P 0 32 ≤ 32 := by have := (nF_le (P := P) 32 0).2; omega
theorem isR_n {A : aR} {a : Nat} (w : wfA A a) (x : Int32) : isR A x = true ↔ nC (pRule A x) 32 ≠ 0 := by
  constructor
  · intro h
    have q := of_decide_eq_true h
    obtain ⟨p1, p2, p3⟩ := pPart_oc q
    intro z
    have := nC_0.mp z _ q
    simp [pRule, p1, p2] at this
  · intro h
    rcases Classical.em (∃ s, s < 32 ∧ pRule A x s = true) with ⟨s, hs, z⟩ | q
    · simp only [pRule, Bool.and_eq_true, beq_iff_eq] at z
      obtain ⟨-, -, t, t1, t2, t3⟩ := w.2.2.2.1 s z.1
      refine decide_eq_true ?_
      rcases Nat.lt_or_ge (nF (pPart A x 0) 0 32) 32 with y | y
      · exact y
      · have := nF_no (P := pPart A x 0) 32 0 t (Nat.zero_le _) (by have := w.lt t1; omega)
        simp [pPart, t1, t2, t3, z.2] at this
    · exact absurd (nC_0.mpr (fun i hi => by
        cases e : pRule A x i with
        | false => rfl
        | true => exact absurd ⟨i, hi, e⟩ q)) h
theorem m_isRule (U : xP) (M : xM) {a : Nat} (w : wfA (nA M) a) (x : Int32) : xMetI U mX4_isRule [.inr 9, .inl x] M (fun r M' => r = bI (isR (nA M) x) ∧ M' = M) := by
  refine xMetI.of (ty := .boolean) (L := [some (.inr 9), some (.inl x)]) fX4_isRule rfl rfl (Nat.le_of_ble_eq_true rfl) (fun G hN hO hR => ?_)
  have hN : G.2.2.2.2.2.2.2.2.2.2.1 = 2 := hN
  have hO : xOK U G RX4 cX4_isRule 2 := hO
  have l := nF_32 (pPart (nA M) x 0)
  refine x_aload_n hO dX4_isRule_0 rfl rfl ?_
  refine x_iload_n hO dX4_isRule_1 rfl rfl ?_
  refine x_iconst (v := nI 0) hO dX4_isRule_2 rfl ?_
  refine x_callV1 hO (m_slotWith U M w x (nI 0)) dX4_isRule_3 lkX4_109 fX4_slotWith vX4_slotWith (by decide) rfl rfl rfl rfl rfl (by decide) (Nat.le_of_ble_eq_true rfl) ?_
  change XW U G _ _ [.inl (nI (nF (pPart (nA M) x 0) 0 32))] M
  refine x_bipush (v := nI 32) hO dX4_isRule_6 rfl ?_
  refine x_icmp_ge (tgt := 15) hO dX4_isRule_8 (by decide) (fun c => ?_) (fun c => ?_)
  · refine x_iconst (v := nI 0) hO dX4_isRule_15 rfl ?_
    refine x_iret hO hR dX4_isRule_16 rfl ?_
    exact ⟨bI_f (decide_eq_false (by have := (nI_leI (by omega) (by omega)).mp c; omega)), rfl⟩
  · refine x_iconst (v := nI 1) hO dX4_isRule_11 rfl ?_
    refine x_goto (tgt := 16) hO dX4_isRule_12 (by decide) ?_
    refine x_iret hO hR dX4_isRule_16 rfl ?_
    refine ⟨bI_t (decide_eq_true ?_), rfl⟩
    rcases Nat.lt_or_ge (nF (pPart (nA M) x 0) 0 32) 32 with y | y
    · exact y
    · exact absurd ((nI_leI (by omega) (by omega)).mpr y) c
theorem m_partsOf (U : xP) (M : xM) (x : Int32) : xMetI U mX4_partsOf [.inr 9, .inl x] M (fun r M' => r = nI (nC (pRule (nA M) x) 32) ∧ M' = M) := by
  refine xMetI.of (ty := .int) (L := [some (.inr 9), some (.inl x), none, none]) fX4_partsOf rfl rfl (Nat.le_of_ble_eq_true rfl) (fun G hN hO hR => ?_)
  have hN : G.2.2.2.2.2.2.2.2.2.2.1 = 4 := hN
  have hO : xOK U G RX4 cX4_partsOf 1 := hO
  refine x_iconst (v := nI 0) hO dX4_partsOf_0 rfl ?_
  refine x_istore_n (n := 4) hO dX4_partsOf_1 rfl rfl (by decide) hN ?_
  refine x_iconst (v := nI 0) hO dX4_partsOf_2 rfl ?_
  refine x_istore_n (n := 4) hO dX4_partsOf_3 rfl rfl (by decide) hN ?_
  refine upd_ind (P := fun i _ => XW U G 4 [some (.inr 9), some (.inl x), some (.inl (nI (nC (pRule (nA M) x) i))), some (.inl (nI i))] [] M) 32 ?_ ?_ 32 0 rfl
  · refine x_iload_n hO dX4_partsOf_4 rfl rfl ?_
    refine x_bipush (v := nI 32) hO dX4_partsOf_5 rfl ?_
    refine x_icmp_ge (tgt := 44) hO dX4_partsOf_7 (by decide) (fun c => ?_) (fun c => ?_)
    · refine x_iload_n hO dX4_partsOf_44 rfl rfl ?_
      refine x_iret hO hR dX4_partsOf_45 rfl ?_
      exact ⟨rfl, rfl⟩
    · exact absurd (Int32.le_refl _) c
  · intro i d hd ih
    have hi : i < 32 := by omega
    refine x_iload_n hO dX4_partsOf_4 rfl rfl ?_
    refine x_bipush (v := nI 32) hO dX4_partsOf_5 rfl ?_
    refine x_icmp_ge (tgt := 44) hO dX4_partsOf_7 (by decide) (fun c => ?_) (fun c => ?_)
    · exact absurd c (nI_ge hi (by decide))
    · refine x_iload_n hO dX4_partsOf_10 rfl rfl ?_
      refine x_aload_n hO dX4_partsOf_11 rfl rfl ?_
      refine x_iload_n hO dX4_partsOf_12 rfl rfl ?_
      refine x_callV1 hO (m_isFree U M hi) dX4_partsOf_13 lkX4_51 fX4_isFree vX4_isFree (by decide) rfl rfl rfl rfl rfl (by decide) (Nat.le_of_ble_eq_true rfl) ?_
      refine x_if_ne (tgt := 35) hO dX4_partsOf_16 (by decide) (fun c2 => ?_) (fun c2 => ?_)
      · have e : aoc (nA M) i = false := by simpa using bI_1 c2
        rw [nC_f (by simp [pRule, e])] at ih
        refine x_iconst (v := nI 0) hO dX4_partsOf_35 rfl ?_
        refine x_iadd hO dX4_partsOf_36 ?_
        rw [nI_z]
        refine x_istore_n (n := 4) hO dX4_partsOf_37 rfl rfl (by decide) hN ?_
        refine x_iinc hO dX4_partsOf_38 rfl (by first | exact xinc_n _ | rfl) rfl hN ?_
        refine x_goto (tgt := 4) hO dX4_partsOf_41 (by decide) ?_
        exact ih
      · have e : aoc (nA M) i = true := by simpa using bI_0 c2
        have e0 : M 10 (7 * i) - nI 1 = nA M i 0 := by have := mA_0 (M := M) e; rwa [Nat.zero_add] at this
        refine x_aload_n hO dX4_partsOf_19 rfl rfl ?_
        refine x_iload_n hO dX4_partsOf_20 rfl rfl ?_
        refine x_iconst (v := nI 0) hO dX4_partsOf_21 rfl ?_
        refine x_callV1 hO (m_at_r U M hi) dX4_partsOf_22 lkX4_55 fX4_at vX4_at (by decide) rfl rfl rfl rfl rfl (by decide) (Nat.le_of_ble_eq_true rfl) ?_
        refine x_iconst (v := nI 1) hO dX4_partsOf_25 rfl ?_
        refine x_isub hO dX4_partsOf_26 ?_
        rw [e0]
        refine x_iload_n hO dX4_partsOf_27 rfl rfl ?_
        refine x_icmp_ne (tgt := 35) hO dX4_partsOf_28 (by decide) (fun c3 => ?_) (fun c3 => ?_)
        · rw [nC_f (by simp [pRule, c3])] at ih
          refine x_iconst (v := nI 0) hO dX4_partsOf_35 rfl ?_
          refine x_iadd hO dX4_partsOf_36 ?_
          rw [nI_z]
          refine x_istore_n (n := 4) hO dX4_partsOf_37 rfl rfl (by decide) hN ?_
          refine x_iinc hO dX4_partsOf_38 rfl (by first | exact xinc_n _ | rfl) rfl hN ?_
          refine x_goto (tgt := 4) hO dX4_partsOf_41 (by decide) ?_
          exact ih
        · rw [nC_t (by simp [pRule, e, c3])] at ih
          refine x_iconst (v := nI 1) hO dX4_partsOf_31 rfl ?_
          refine x_goto (tgt := 36) hO dX4_partsOf_32 (by decide) ?_
          refine x_iadd hO dX4_partsOf_36 ?_
          rw [nI_1c]
          refine x_istore_n (n := 4) hO dX4_partsOf_37 rfl rfl (by decide) hN ?_
          refine x_iinc hO dX4_partsOf_38 rfl (by first | exact xinc_n _ | rfl) rfl hN ?_
          refine x_goto (tgt := 4) hO dX4_partsOf_41 (by decide) ?_
          exact ih
theorem km_remove (U : xP) (M : xM) {s : aO} (h : RM M s) {B : Nat} (w : WfO s B) (x : Int32) : xMetI U mX4_remove [.inr 9, .inl x] M (poM M (o_remove s x)) := by
  refine xMetI.of (ty := .int) (L := [some (.inr 9), some (.inl x), none, none]) fX4_remove rfl rfl (Nat.le_of_ble_eq_true rfl) (fun G hN hO hR => ?_)
  have hN : G.2.2.2.2.2.2.2.2.2.2.1 = 4 := hN
  have hO : xOK U G RX4 cX4_remove 3 := hO
  unfold o_remove at hR
  obtain ⟨⟨a0, l0, e0, wA⟩, -, -⟩ := w
  have hle := nC_le (pRule s.1.1 x) 32
  refine x_aload_n hO dX4_remove_0 rfl rfl ?_
  refine x_iload_n hO dX4_remove_1 rfl rfl ?_
  refine x_callV1 hO (m_isRule U M (a := a0) (by rw [h.rows]; exact wA) x) dX4_remove_2 lkX4_112 fX4_isRule vX4_isRule (by decide) rfl rfl rfl rfl rfl (by decide) (Nat.le_of_ble_eq_true rfl) ?_
  rw [h.rows]
  refine x_if_ne (tgt := 10) hO dX4_remove_5 (by decide) (fun c => ?_) (fun c => ?_)
  · have q := (isR_n wA x).mp (bI_1 c)
    rw [if_neg q] at hR
    refine x_aload_n hO dX4_remove_10 rfl rfl ?_
    refine x_callVv hO (m_record U M h) dX4_remove_11 lkX4_48 fX4_record vX4_record (by decide) rfl rfl rfl rfl rfl (by decide) (Nat.le_of_ble_eq_true rfl) (fun M1 m1 => ?_)
    obtain ⟨r1, fr1, -⟩ := m1
    have eA : nA M1 = s.1.1 := r1.rows
    have eG : nG M1 = s.1.2 := r1.nums
    refine x_iconst (v := nI 0) hO dX4_remove_14 rfl ?_
    refine x_istore_n (n := 4) hO dX4_remove_15 rfl rfl (by decide) hN ?_
    refine x_iconst (v := nI 0) hO dX4_remove_16 rfl ?_
    refine x_istore_n (n := 4) hO dX4_remove_17 rfl rfl (by decide) hN ?_
    refine upd_ind (P := fun i _ => ∀ M2, mSm M1 M2 (fun t => if t < i then aDrop s.1.1 x t else s.1.1 t) (nG M1) → XW U G 18 [some (.inr 9), some (.inl x), some (.inl (nI (nC (pRule s.1.1 x) i))), some (.inl (nI i))] [] M2) 32 ?_ ?_ 32 0 rfl M1 ?_
    · intro M2 m2
      refine x_iload_n hO dX4_remove_18 rfl rfl ?_
      refine x_bipush (v := nI 32) hO dX4_remove_19 rfl ?_
      refine x_icmp_ge (tgt := 58) hO dX4_remove_21 (by decide) (fun c1 => ?_) (fun c1 => ?_)
      · refine x_iload_n hO dX4_remove_58 rfl rfl ?_
        refine x_iret hO hR dX4_remove_59 rfl ?_
        have e : (fun t => if t < 32 then aDrop s.1.1 x t else s.1.1 t) = aDrop s.1.1 x := by
          funext t
          split
          · rfl
          · rename_i z
            unfold aDrop
            rw [wA.2.1 t (by omega)]
            split <;> rfl
        rw [e, eG] at m2
        obtain ⟨r2, f2⟩ := r1.mSm m2 h.z
        exact ⟨rfl, r2, fr1.tr f2⟩
      · exact absurd (Int32.le_refl _) c1
    · intro i d hd ih M2 m2
      have hi : i < 32 := by omega
      have ei : nA M2 i = s.1.1 i := by rw [m2.1]; exact if_neg (by omega)
      have eo : aoc (nA M2) i = aoc s.1.1 i := by unfold aoc; rw [ei]
      have same : aDrop s.1.1 x i = s.1.1 i → mSm M1 M2 (fun t => if t < i + 1 then aDrop s.1.1 x t else s.1.1 t) (nG M1) := by
        intro z
        have e : (fun t => if t < i + 1 then aDrop s.1.1 x t else s.1.1 t) = (fun t => if t < i then aDrop s.1.1 x t else s.1.1 t) := by
          funext t
          by_cases y : t = i
          · subst y
            rw [if_pos (by omega), if_neg (by omega), z]
          · have : t < i + 1 ↔ t < i := by omega
            simp only [this]
        rw [e]
        exact m2
      refine x_iload_n hO dX4_remove_18 rfl rfl ?_
      refine x_bipush (v := nI 32) hO dX4_remove_19 rfl ?_
      refine x_icmp_ge (tgt := 58) hO dX4_remove_21 (by decide) (fun c1 => ?_) (fun c1 => ?_)
      · exact absurd c1 (nI_ge hi (by decide))
      · refine x_aload_n hO dX4_remove_24 rfl rfl ?_
        refine x_iload_n hO dX4_remove_25 rfl rfl ?_
        refine x_callV1 hO (m_isFree U M2 hi) dX4_remove_26 lkX4_51 fX4_isFree vX4_isFree (by decide) rfl rfl rfl rfl rfl (by decide) (Nat.le_of_ble_eq_true rfl) ?_
        rw [eo]
        refine x_if_ne (tgt := 52) hO dX4_remove_29 (by decide) (fun c2 => ?_) (fun c2 => ?_)
        · have e : aoc s.1.1 i = false := by simpa using bI_1 c2
          rw [nC_f (by simp [pRule, e])] at ih
          refine x_iinc hO dX4_remove_52 rfl (by first | exact xinc_n _ | rfl) rfl hN ?_
          refine x_goto (tgt := 18) hO dX4_remove_55 (by decide) ?_
          exact ih M2 (same (by unfold aDrop; rw [wA.2.2.1 i e]; split <;> rfl))
        · have e : aoc s.1.1 i = true := by simpa using bI_0 c2
          have e0 : M2 10 (7 * i) - nI 1 = s.1.1 i 0 := by
            have := mA_0 (M := M2) (c := 10) (o := 0) (s := i) (by show aoc (nA M2) i = true; rw [eo]; exact e)
            rw [Nat.zero_add] at this
            rw [← ei]
            exact this
          refine x_aload_n hO dX4_remove_32 rfl rfl ?_
          refine x_iload_n hO dX4_remove_33 rfl rfl ?_
          refine x_iconst (v := nI 0) hO dX4_remove_34 rfl ?_
          refine x_callV1 hO (m_at_r U M2 hi) dX4_remove_35 lkX4_55 fX4_at vX4_at (by decide) rfl rfl rfl rfl rfl (by decide) (Nat.le_of_ble_eq_true rfl) ?_
          refine x_iconst (v := nI 1) hO dX4_remove_38 rfl ?_
          refine x_isub hO dX4_remove_39 ?_
          rw [e0]
          refine x_iload_n hO dX4_remove_40 rfl rfl ?_
          refine x_icmp_ne (tgt := 52) hO dX4_remove_41 (by decide) (fun c3 => ?_) (fun c3 => ?_)
          · rw [nC_f (by simp [pRule, c3])] at ih
            refine x_iinc hO dX4_remove_52 rfl (by first | exact xinc_n _ | rfl) rfl hN ?_
            refine x_goto (tgt := 18) hO dX4_remove_55 (by decide) ?_
            exact ih M2 (same (by unfold aDrop; rw [if_neg c3]))
          · rw [nC_t (by simp [pRule, e, c3])] at ih
            refine x_aload_n hO dX4_remove_44 rfl rfl ?_
            refine x_iload_n hO dX4_remove_45 rfl rfl ?_
            refine x_callVv hO (m_clearSlot U M2 hi) dX4_remove_46 lkX4_115 fX4_clearSlot vX4_clearSlot (by decide) rfl rfl rfl rfl rfl (by decide) (Nat.le_of_ble_eq_true rfl) (fun M3 m3 => ?_)
            have m4 := m2.tr m3
            refine x_iinc hO dX4_remove_49 rfl (by first | exact xinc_n _ | rfl) rfl hN ?_
            refine x_iinc hO dX4_remove_52 rfl (by first | exact xinc_n _ | rfl) rfl hN ?_
            refine x_goto (tgt := 18) hO dX4_remove_55 (by decide) ?_
            refine ih M3 ?_
            have e2 : (fun t => if t = i then eR else nA M2 t) = (fun t => if t < i + 1 then aDrop s.1.1 x t else s.1.1 t) := by
              funext t
              rw [m2.1]
              by_cases y : t = i
              · subst y
                rw [if_pos rfl, if_pos (by omega)]
                unfold aDrop
                rw [if_pos c3]
              · have : t < i + 1 ↔ t < i := by omega
                rw [if_neg y]
                simp only [this]
            rw [e2] at m4
            exact m4.gc (fun j hj => m2.g hj)
    · have e : (fun t => if t < 0 then aDrop s.1.1 x t else s.1.1 t) = nA M1 := by
        rw [eA]
        funext t
        exact if_neg (by omega)
      rw [e]
      exact mSm.rf M1
  · have q : nC (pRule s.1.1 x) 32 = 0 := by
      rcases Nat.eq_zero_or_pos (nC (pRule s.1.1 x) 32) with z | z
      · exact z
      · have := (isR_n wA x).mpr (by omega)
        rw [bI_0 c] at this
        cases this
    rw [if_pos q] at hR
    refine x_iconst (v := (-1 : Int32)) hO dX4_remove_8 rfl ?_
    refine x_iret hO hR dX4_remove_9 rfl ?_
    exact ⟨rfl, h, frM.rf M⟩
theorem km_setPlacing (U : xP) (M : xM) {s : aO} (h : RM M s) (x : Int32) : xMetI U mX4_setPlacing [.inr 9, .inl x] M (poM M (o_setPlacing s x)) := by
  refine xMetI.of (ty := .int) (L := [some (.inr 9), some (.inl x), none]) fX4_setPlacing rfl rfl (Nat.le_of_ble_eq_true rfl) (fun G hN hO hR => ?_)
  have hN : G.2.2.2.2.2.2.2.2.2.2.1 = 3 := hN
  have hO : xOK U G RX4 cX4_setPlacing 2 := hO
  unfold o_setPlacing at hR
  have g0 : M 10 224 = s.1.2 0 := by rw [← h.nums]; exact (nG_at M (j := 0) (by decide)).symm
  have l224 : 224 < 229 := by decide
  refine x_iload_n hO dX4_setPlacing_0 rfl rfl ?_
  refine x_iconst (v := nI 0) hO dX4_setPlacing_1 rfl ?_
  refine x_iconst (v := nI 2) hO dX4_setPlacing_2 rfl ?_
  refine x_callS1 hO (m_in U M x (n := 2) (by decide)) dX4_setPlacing_3 lkX4_28 fX4_in sX4_in rfl rfl (by decide) (Nat.le_of_ble_eq_true rfl) ?_
  refine x_if_ne (tgt := 12) hO dX4_setPlacing_6 (by decide) (fun c => ?_) (fun c => ?_)
  · rw [bI_1 c, if_pos rfl] at hR
    refine x_aload_n hO dX4_setPlacing_12 rfl rfl ?_
    refine x_getR (T := TX4) (j := 0) hO dX4_setPlacing_13 flX4_7 (by decide) rfl rfl (by decide) rfl rfl ?_
    refine x_sipush (v := nI 224) hO dX4_setPlacing_16 rfl ?_
    refine x_iald hO (by decide) rfl (by decide) (rfl) (l224) dX4_setPlacing_19 ?_
    rw [g0]
    refine x_istore_n (n := 3) hO dX4_setPlacing_20 rfl rfl (by decide) hN ?_
    refine x_iload_n hO dX4_setPlacing_21 rfl rfl ?_
    refine x_iload_n hO dX4_setPlacing_22 rfl rfl ?_
    refine x_icmp_ne (tgt := 29) hO dX4_setPlacing_23 (by decide) (fun c2 => ?_) (fun c2 => ?_)
    · rw [if_neg (fun z => c2 z.symm)] at hR
      refine x_aload_n hO dX4_setPlacing_29 rfl rfl ?_
      refine x_callVv hO (m_record U M h) dX4_setPlacing_30 lkX4_48 fX4_record vX4_record (by decide) rfl rfl rfl rfl rfl (by decide) (Nat.le_of_ble_eq_true rfl) (fun M1 m1 => ?_)
      obtain ⟨r1, fr1, -⟩ := m1
      refine x_aload_n hO dX4_setPlacing_33 rfl rfl ?_
      refine x_getR (T := TX4) (j := 0) hO dX4_setPlacing_34 flX4_7 (by decide) rfl rfl (by decide) rfl rfl ?_
      refine x_sipush (v := nI 224) hO dX4_setPlacing_37 rfl ?_
      refine x_iload_n hO dX4_setPlacing_40 rfl rfl ?_
      refine x_iast hO (by decide) rfl (by decide) (rfl) (l224) dX4_setPlacing_41 ?_
      have m2 := mSm.num (M := M1) (j := 0) (by decide) x
      obtain ⟨r2, f2⟩ := r1.mSm m2 (upd_z (nG_z M1) (by decide) _)
      refine x_iload_n hO dX4_setPlacing_42 rfl rfl ?_
      refine x_iret hO hR dX4_setPlacing_43 rfl ?_
      rw [r1.rows, r1.nums] at r2
      exact ⟨rfl, r2, fr1.tr f2⟩
    · rw [if_pos c2.symm] at hR
      refine x_bipush (v := (-4 : Int32)) hO dX4_setPlacing_26 rfl ?_
      refine x_iret hO hR dX4_setPlacing_28 rfl ?_
      exact ⟨rfl, h, frM.rf M⟩
  · rw [bI_0 c] at hR
    refine x_bipush (v := (-2 : Int32)) hO dX4_setPlacing_9 rfl ?_
    refine x_iret hO hR dX4_setPlacing_11 rfl ?_
    exact ⟨rfl, h, frM.rf M⟩
