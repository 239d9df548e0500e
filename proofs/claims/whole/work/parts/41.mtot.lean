/-! ===== hidden entries ===== -/
/-- a key of the slot j that the slot s does not match -/
def hV (A : aR) (s j : Nat) (k : Nat) : Bool := pKey A (nI k) j && !pKey A (nI k) s
theorem m_hides (U : xP) (M : xM) {s j : Nat} (hs : s < 32) (hj : j < 32) : xMetI U mX4_hides [.inr 9, .inl (nI s), .inl (nI j)] M (fun r M' => r = bI (aoc (nA M) s && decide (nF (hV (nA M) s j) 0 256 = 256)) ∧ M' = M) := by
  refine xMetI.of (ty := .boolean) (L := [some (.inr 9), some (.inl (nI s)), some (.inl (nI j)), none, none]) fX4_hides rfl rfl (Nat.le_of_ble_eq_true rfl) (fun G hN hO hR => ?_)
  have hN : G.2.2.2.2.2.2.2.2.2.2.1 = 5 := hN
  have hO : xOK U G RX4 cX4_hides 2 := hO
  have l := (nF_le (P := hV (nA M) s j) 256 0).2
  refine x_aload_n hO dX4_hides_0 rfl rfl ?_
  refine x_iload_n hO dX4_hides_1 rfl rfl ?_
  refine x_callV1 hO (m_isFree U M hs) dX4_hides_2 lkX4_51 fX4_isFree vX4_isFree (by decide) rfl rfl rfl rfl rfl (by decide) (Nat.le_of_ble_eq_true rfl) ?_
  refine x_if_ne (tgt := 12) hO dX4_hides_5 (by decide) (fun c => ?_) (fun c => ?_)
  · have e : aoc (nA M) s = false := by simpa using bI_1 c
    rw [e] at hR
    refine x_iconst (v := nI 0) hO dX4_hides_12 rfl ?_
    refine x_istore_n (n := 5) hO dX4_hides_13 rfl rfl (by decide) hN ?_
    refine x_iconst (v := nI 0) hO dX4_hides_14 rfl ?_
    refine x_istore (n := 5) hO dX4_hides_15 rfl (by decide) hN ?_
    refine x_iload hO dX4_hides_17 rfl ?_
    refine x_sipush (v := nI 256) hO dX4_hides_19 rfl ?_
    refine x_icmp_ge (tgt := 61) hO dX4_hides_22 (by decide) (fun c1 => ?_) (fun c1 => ?_)
    · exact absurd c1 (by decide)
    · refine x_iload_n hO dX4_hides_25 rfl rfl ?_
      refine x_if_eq (tgt := 61) hO dX4_hides_26 (by decide) (fun c2 => ?_) (fun c2 => ?_)
      · refine x_iload_n hO dX4_hides_61 rfl rfl ?_
        refine x_iret hO hR dX4_hides_62 rfl ?_
        exact ⟨rfl, rfl⟩
      · exact absurd rfl c2
  · have e : aoc (nA M) s = true := by simpa using bI_0 c
    rw [e, Bool.true_and] at hR
    generalize hf : nF (hV (nA M) s j) 0 256 = f at hR l
    refine x_iconst (v := nI 1) hO dX4_hides_8 rfl ?_
    refine x_goto (tgt := 13) hO dX4_hides_9 (by decide) ?_
    refine x_istore_n (n := 5) hO dX4_hides_13 rfl rfl (by decide) hN ?_
    refine x_iconst (v := nI 0) hO dX4_hides_14 rfl ?_
    refine x_istore (n := 5) hO dX4_hides_15 rfl (by decide) hN ?_
    refine upd_ind (P := fun i d => nF (hV (nA M) s j) i d = f → XW U G 17 [some (.inr 9), some (.inl (nI s)), some (.inl (nI j)), some (.inl (nI 1)), some (.inl (nI i))] [] M) 256 ?_ ?_ 256 0 rfl hf
    · intro hf
      refine x_iload hO dX4_hides_17 rfl ?_
      refine x_sipush (v := nI 256) hO dX4_hides_19 rfl ?_
      refine x_icmp_ge (tgt := 61) hO dX4_hides_22 (by decide) (fun c1 => ?_) (fun c1 => ?_)
      · refine x_iload_n hO dX4_hides_61 rfl rfl ?_
        refine x_iret hO hR dX4_hides_62 rfl ?_
        refine ⟨bI_t (decide_eq_true ?_), rfl⟩
        rw [← hf]
        rfl
      · exact absurd (Int32.le_refl _) c1
    · intro i d hd ih hf
      have hi : i < 256 := by omega
      refine x_iload hO dX4_hides_17 rfl ?_
      refine x_sipush (v := nI 256) hO dX4_hides_19 rfl ?_
      refine x_icmp_ge (tgt := 61) hO dX4_hides_22 (by decide) (fun c1 => ?_) (fun c1 => ?_)
      · exact absurd c1 (nI_ge hi (by decide))
      · refine x_iload_n hO dX4_hides_25 rfl rfl ?_
        refine x_if_eq (tgt := 61) hO dX4_hides_26 (by decide) (fun c2 => ?_) (fun c2 => ?_)
        · exact absurd c2 (by decide)
        · refine x_aload_n hO dX4_hides_29 rfl rfl ?_
          refine x_iload_n hO dX4_hides_30 rfl rfl ?_
          refine x_iload hO dX4_hides_31 rfl ?_
          refine x_callV1 hO (m_matches U M hj (nI i)) dX4_hides_33 lkX4_127 fX4_matches vX4_matches (by decide) rfl rfl rfl rfl rfl (by decide) (Nat.le_of_ble_eq_true rfl) ?_
          refine x_if_eq (tgt := 49) hO dX4_hides_36 (by decide) (fun c3 => ?_) (fun c3 => ?_)
          · refine x_iconst (v := nI 1) hO dX4_hides_49 rfl ?_
            refine x_goto (tgt := 54) hO dX4_hides_50 (by decide) ?_
            refine x_istore_n (n := 5) hO dX4_hides_54 rfl rfl (by decide) hN ?_
            refine x_iinc hO dX4_hides_55 rfl (by first | exact xinc_n _ | rfl) rfl hN ?_
            refine x_goto (tgt := 17) hO dX4_hides_58 (by decide) ?_
            exact ih (by rw [← hf, nF_f (by simp [hV, bI_0 c3])])
          · refine x_aload_n hO dX4_hides_39 rfl rfl ?_
            refine x_iload_n hO dX4_hides_40 rfl rfl ?_
            refine x_iload hO dX4_hides_41 rfl ?_
            refine x_callV1 hO (m_matches U M hs (nI i)) dX4_hides_43 lkX4_127 fX4_matches vX4_matches (by decide) rfl rfl rfl rfl rfl (by decide) (Nat.le_of_ble_eq_true rfl) ?_
            refine x_if_eq (tgt := 53) hO dX4_hides_46 (by decide) (fun c4 => ?_) (fun c4 => ?_)
            · refine x_iconst (v := nI 0) hO dX4_hides_53 rfl ?_
              refine x_istore_n (n := 5) hO dX4_hides_54 rfl rfl (by decide) hN ?_
              refine x_iinc hO dX4_hides_55 rfl (by first | exact xinc_n _ | rfl) rfl hN ?_
              refine x_goto (tgt := 17) hO dX4_hides_58 (by decide) ?_
              refine x_iload hO dX4_hides_17 rfl ?_
              refine x_sipush (v := nI 256) hO dX4_hides_19 rfl ?_
              have q : f = i := by rw [← hf, nF_t (by simp [hV, bI_1 c3, bI_0 c4])]
              refine x_icmp_ge (tgt := 61) hO dX4_hides_22 (by decide) (fun c5 => ?_) (fun c5 => ?_)
              · refine x_iload_n hO dX4_hides_61 rfl rfl ?_
                refine x_iret hO hR dX4_hides_62 rfl ?_
                exact ⟨bI_f (decide_eq_false (by omega)), rfl⟩
              · refine x_iload_n hO dX4_hides_25 rfl rfl ?_
                refine x_if_eq (tgt := 61) hO dX4_hides_26 (by decide) (fun c6 => ?_) (fun c6 => ?_)
                · refine x_iload_n hO dX4_hides_61 rfl rfl ?_
                  refine x_iret hO hR dX4_hides_62 rfl ?_
                  exact ⟨bI_f (decide_eq_false (by omega)), rfl⟩
                · exact absurd rfl c6
            · refine x_iconst (v := nI 1) hO dX4_hides_49 rfl ?_
              refine x_goto (tgt := 54) hO dX4_hides_50 (by decide) ?_
              refine x_istore_n (n := 5) hO dX4_hides_54 rfl rfl (by decide) hN ?_
              refine x_iinc hO dX4_hides_55 rfl (by first | exact xinc_n _ | rfl) rfl hN ?_
              refine x_goto (tgt := 17) hO dX4_hides_58 (by decide) ?_
              exact ih (by rw [← hf, nF_f (by simp [hV, bI_1 c3, bI_1 c4])])
theorem hid_nat {m v x y : Nat} (hm : m < 256) (hv : v < 256) (e1 : v &&& m = v) (hx : x < 256) (e2 : y &&& x = y) : (∀ k, k < 256 → k &&& m = v → k &&& x = y) ↔ (x &&& m = x ∧ v &&& x = y) := by
  constructor
  · intro h
    have h1 := h v hv e1
    refine ⟨?_, h1⟩
    have hk : v ||| (255 ^^^ m) < 256 := Nat.or_lt_two_pow (n := 8) hv (Nat.xor_lt_two_pow (n := 8) (by decide) hm)
    have h2 := h (v ||| (255 ^^^ m)) hk (by
      refine Nat.eq_of_testBit_eq (fun i => ?_)
      have b1 := congrArg (fun z => Nat.testBit z i) e1
      have b2 : i < 8 → Nat.testBit 255 i = true := fun z => (by decide : ∀ i, i < 8 → Nat.testBit 255 i = true) i z
      have b3 : 8 ≤ i → Nat.testBit m i = false := fun z => Nat.testBit_lt_two_pow (Nat.lt_of_lt_of_le hm (Nat.pow_le_pow_right (n := 2) (by decide) z))
      simp only [Nat.testBit_and, Nat.testBit_or, Nat.testBit_xor] at b1 ⊢
      rcases Nat.lt_or_ge i 8 with z | z
      · rw [b2 z]
        revert b1
        cases Nat.testBit v i <;> cases Nat.testBit m i <;> decide
      · rw [b3 z] at b1 ⊢
        revert b1
        cases Nat.testBit v i <;> cases Nat.testBit 255 i <;> decide)
    refine Nat.eq_of_testBit_eq (fun i => ?_)
    have b1 := congrArg (fun z => Nat.testBit z i) h1
    have b2 := congrArg (fun z => Nat.testBit z i) h2
    have b4 := congrArg (fun z => Nat.testBit z i) e1
    have b5 : i < 8 → Nat.testBit 255 i = true := fun z => (by decide : ∀ i, i < 8 → Nat.testBit 255 i = true) i z
    have b3 : 8 ≤ i → Nat.testBit x i = false := fun z => Nat.testBit_lt_two_pow (Nat.lt_of_lt_of_le hx (Nat.pow_le_pow_right (n := 2) (by decide) z))
    simp only [Nat.testBit_and, Nat.testBit_or, Nat.testBit_xor] at b1 b2 b4 ⊢
    rcases Nat.lt_or_ge i 8 with z | z
    · rw [b5 z] at b2
      rw [← b2] at b1
      revert b1 b4
      cases Nat.testBit v i <;> cases Nat.testBit m i <;> cases Nat.testBit x i <;> decide
    · rw [b3 z]
      cases Nat.testBit m i <;> rfl
  · rintro ⟨h1, h2⟩ k _ hk
    rw [← h2, ← hk, Nat.and_assoc, Nat.and_comm m x, h1]
theorem hid_eq {A : aR} {a s j : Nat} (w : wfA A a) (hj : aoc A j = true) : (aoc A s && decide (nF (hV A s j) 0 256 = 256)) = pHid A (A j 2) (A j 3) s := by
  cases hs : aoc A s with
  | false => simp [pHid, hs]
  | true =>
    obtain ⟨-, ⟨m, v, m1, v1, m2, v2, mv⟩, -⟩ := w.2.2.2.1 j hj
    obtain ⟨-, ⟨x, y, x1, y1, x2, y2, xy⟩, -⟩ := w.2.2.2.1 s hs
    have nand : ∀ {p q r : Nat}, p < 256 → q < 256 → r < 256 → (nI p &&& nI q = nI r ↔ p &&& q = r) := by
      intro p q r hp hq hr
      rw [nI_and (by omega) (by omega)]
      exact nI_eq (Nat.lt_of_le_of_lt Nat.and_le_left (by omega)) (by omega)
    have pk : ∀ k, k < 256 → ∀ t p q, aoc A t = true → A t 2 = nI p → A t 3 = nI q → p < 256 → q < 256 → (pKey A (nI k) t = true ↔ k &&& p = q) := by
      intro k hk t p q ht e2 e3 hp hq
      unfold pKey
      rw [ht, Bool.true_and, beq_iff_eq, e2, e3]
      exact nand hk hp hq
    unfold pHid
    rw [hs, Bool.true_and, Bool.true_and, m2, v2, x2, y2, Bool.eq_iff_iff, decide_eq_true_eq, Bool.and_eq_true, beq_iff_eq, beq_iff_eq, nand x1 m1 x1, nand v1 x1 y1, ← hid_nat m1 v1 mv x1 xy]
    constructor
    · intro h k hk e
      have := nF_no (P := hV A s j) 256 0 k (Nat.zero_le _) (by rw [h]; exact hk)
      unfold hV at this
      rw [(pk k hk j m v hj m2 v2 m1 v1).mpr e, Bool.true_and] at this
      exact (pk k hk s x y hs x2 y2 x1 y1).mp (by simpa using this)
    · intro h
      refine nF_eq (Nat.zero_le _) (by omega) (fun k _ hk => ?_) (fun z => by omega)
      unfold hV
      cases e : pKey A (nI k) j with
      | false => rfl
      | true =>
        have := (pk k hk s x y hs x2 y2 x1 y1).mpr (h k hk ((pk k hk j m v hj m2 v2 m1 v1).mp e))
        rw [this]
        rfl
theorem km_hiddenBy (U : xP) (M : xM) {s : aO} (h : RM M s) {B : Nat} (w : WfO s B) (x : Int32) : xMetI U mX4_hiddenBy [.inr 9, .inl x] M (quC M (q_hid s.1.1 x)) := by
  refine xMetI.of (ty := .int) (L := [some (.inr 9), some (.inl x), none]) fX4_hiddenBy rfl rfl (Nat.le_of_ble_eq_true rfl) (fun G hN hO hR => ?_)
  have hN : G.2.2.2.2.2.2.2.2.2.2.1 = 3 := hN
  have hO : xOK U G RX4 cX4_hiddenBy 3 := hO
  obtain ⟨⟨a0, l0, -, wA⟩, -, -⟩ := w
  unfold q_hid at hR
  rw [← h.rows] at hR wA
  refine x_iload_n hO dX4_hiddenBy_0 rfl rfl ?_
  refine x_callS1 hO (m_isSlot U M x) dX4_hiddenBy_1 lkX4_168 fX4_isSlot sX4_isSlot rfl rfl (by decide) (Nat.le_of_ble_eq_true rfl) ?_
  refine x_if_ne (tgt := 9) hO dX4_hiddenBy_4 (by decide) (fun c => ?_) (fun c => ?_)
  · have q := bI_1 c
    rw [if_pos q] at hR
    obtain ⟨ej, hj⟩ := ixB_c (by decide) q
    generalize x.toNatClampNeg = j at *
    subst ej
    refine x_iconst (v := nI 0) hO dX4_hiddenBy_9 rfl ?_
    refine x_istore_n (n := 3) hO dX4_hiddenBy_10 rfl rfl (by decide) hN ?_
    by_cases ho : aoc (nA M) j = true
    · rw [if_pos ho] at hR
      unfold aHid at hR
      have l := (nF_le (P := pHid (nA M) (nA M j 2) (nA M j 3)) j 0).2
      generalize hf : nF (pHid (nA M) (nA M j 2) (nA M j 3)) 0 j = f at hR l
      refine upd_ind (P := fun i d => nF (pHid (nA M) (nA M j 2) (nA M j 3)) i d = f → XW U G 11 [some (.inr 9), some (.inl (nI j)), some (.inl (nI i))] [] M) j ?_ ?_ j 0 (by omega) hf
      · intro hf
        refine x_iload_n hO dX4_hiddenBy_11 rfl rfl ?_
        refine x_iload_n hO dX4_hiddenBy_12 rfl rfl ?_
        refine x_icmp_ge (tgt := 41) hO dX4_hiddenBy_13 (by decide) (fun c1 => ?_) (fun c1 => ?_)
        · refine x_bipush (v := (-4 : Int32)) hO dX4_hiddenBy_41 rfl ?_
          refine x_iret hO hR dX4_hiddenBy_43 rfl ?_
          have e : ¬ f < j := by rw [← hf]; exact Nat.lt_irrefl j
          rw [if_neg e, if_pos rfl]
          exact ⟨rfl, rfl⟩
        · exact absurd (Int32.le_refl _) c1
      · intro i d hd ih hf
        have hi : i < 32 := by omega
        refine x_iload_n hO dX4_hiddenBy_11 rfl rfl ?_
        refine x_iload_n hO dX4_hiddenBy_12 rfl rfl ?_
        refine x_icmp_ge (tgt := 41) hO dX4_hiddenBy_13 (by decide) (fun c1 => ?_) (fun c1 => ?_)
        · exact absurd c1 (nI_ge (by omega) (by omega))
        · refine x_aload_n hO dX4_hiddenBy_16 rfl rfl ?_
          refine x_iload_n hO dX4_hiddenBy_17 rfl rfl ?_
          refine x_callV1 hO (m_isFree U M hj) dX4_hiddenBy_18 lkX4_51 fX4_isFree vX4_isFree (by decide) rfl rfl rfl rfl rfl (by decide) (Nat.le_of_ble_eq_true rfl) ?_
          rw [ho]
          refine x_if_ne (tgt := 41) hO dX4_hiddenBy_21 (by decide) (fun c2 => ?_) (fun c2 => ?_)
          · exact absurd rfl c2
          · refine x_aload_n hO dX4_hiddenBy_24 rfl rfl ?_
            refine x_iload_n hO dX4_hiddenBy_25 rfl rfl ?_
            refine x_iload_n hO dX4_hiddenBy_26 rfl rfl ?_
            refine x_callV1 hO (m_hides U M hi hj) dX4_hiddenBy_27 lkX4_180 fX4_hides vX4_hides (by decide) rfl rfl rfl rfl rfl (by decide) (Nat.le_of_ble_eq_true rfl) ?_
            rw [hid_eq wA ho]
            refine x_if_eq (tgt := 35) hO dX4_hiddenBy_30 (by decide) (fun c3 => ?_) (fun c3 => ?_)
            · refine x_iinc hO dX4_hiddenBy_35 rfl (by first | exact xinc_n _ | rfl) rfl hN ?_
              refine x_goto (tgt := 11) hO dX4_hiddenBy_38 (by decide) ?_
              exact ih (by rw [← hf, nF_f (bI_0 c3)])
            · refine x_iload_n hO dX4_hiddenBy_33 rfl rfl ?_
              refine x_iret hO hR dX4_hiddenBy_34 rfl ?_
              have e : f = i := by rw [← hf, nF_t (bI_1 c3)]
              rw [if_pos (by omega : f < j), e, if_neg (nI_m1 (by omega))]
              exact ⟨rfl, rfl⟩
    · rw [if_neg ho] at hR
      refine x_iload_n hO dX4_hiddenBy_11 rfl rfl ?_
      refine x_iload_n hO dX4_hiddenBy_12 rfl rfl ?_
      refine x_icmp_ge (tgt := 41) hO dX4_hiddenBy_13 (by decide) (fun c1 => ?_) (fun c1 => ?_)
      · refine x_bipush (v := (-4 : Int32)) hO dX4_hiddenBy_41 rfl ?_
        refine x_iret hO hR dX4_hiddenBy_43 rfl ?_
        exact ⟨rfl, rfl⟩
      · refine x_aload_n hO dX4_hiddenBy_16 rfl rfl ?_
        refine x_iload_n hO dX4_hiddenBy_17 rfl rfl ?_
        refine x_callV1 hO (m_isFree U M hj) dX4_hiddenBy_18 lkX4_51 fX4_isFree vX4_isFree (by decide) rfl rfl rfl rfl rfl (by decide) (Nat.le_of_ble_eq_true rfl) ?_
        refine x_if_ne (tgt := 41) hO dX4_hiddenBy_21 (by decide) (fun c2 => ?_) (fun c2 => ?_)
        · refine x_bipush (v := (-4 : Int32)) hO dX4_hiddenBy_41 rfl ?_
          refine x_iret hO hR dX4_hiddenBy_43 rfl ?_
          exact ⟨rfl, rfl⟩
        · exact absurd (by simpa using bI_0 c2) ho
  · rw [if_neg (by rw [bI_0 c]; decide)] at hR
    refine x_iconst (v := (-1 : Int32)) hO dX4_hiddenBy_7 rfl ?_
    refine x_iret hO hR dX4_hiddenBy_8 rfl ?_
    exact ⟨rfl, rfl⟩
theorem km_wouldMove (U : xP) (M : xM) {s : aO} (h : RM M s) {B : Nat} (w : WfO s B) (x : Int32) : xMetI U mX4_wouldMove [.inr 9, .inl x] M (quC M (q_wm s.1.1 x)) := by
  refine xMetI.of (ty := .int) (L := [some (.inr 9), some (.inl x), none]) fX4_wouldMove rfl rfl (Nat.le_of_ble_eq_true rfl) (fun G hN hO hR => ?_)
  have hN : G.2.2.2.2.2.2.2.2.2.2.1 = 3 := hN
  have hO : xOK U G RX4 cX4_wouldMove 3 := hO
  obtain ⟨⟨a0, l0, -, wA⟩, -, -⟩ := w
  unfold q_wm at hR
  have hle := aCnt_le s.1.1
  refine x_iload_n hO dX4_wouldMove_0 rfl rfl ?_
  refine x_iconst (v := nI 0) hO dX4_wouldMove_1 rfl ?_
  refine x_bipush (v := nI 99) hO dX4_wouldMove_2 rfl ?_
  refine x_callS1 hO (m_in U M x (n := 99) (by decide)) dX4_wouldMove_4 lkX4_28 fX4_in sX4_in rfl rfl (by decide) (Nat.le_of_ble_eq_true rfl) ?_
  refine x_if_ne (tgt := 13) hO dX4_wouldMove_7 (by decide) (fun c => ?_) (fun c => ?_)
  · rw [bI_1 c, if_pos rfl] at hR
    refine x_aload_n hO dX4_wouldMove_13 rfl rfl ?_
    refine x_callV1 hO (m_freeSlots U M) dX4_wouldMove_14 lkX4_93 fX4_freeSlots vX4_freeSlots (by decide) rfl rfl rfl rfl rfl (by decide) (Nat.le_of_ble_eq_true rfl) ?_
    rw [h.rows]
    refine x_if_ne (tgt := 23) hO dX4_wouldMove_17 (by decide) (fun c2 => ?_) (fun c2 => ?_)
    · have q : ¬ aCnt s.1.1 = 32 := fun z => c2 (by rw [z]; rfl)
      rw [if_neg q] at hR
      refine x_aload_n hO dX4_wouldMove_23 rfl rfl ?_
      refine x_iload_n hO dX4_wouldMove_24 rfl rfl ?_
      refine x_callV1 hO (m_moves U M x (by rw [h.rows]; omega) (by rw [h.rows]; exact wA.1)) dX4_wouldMove_25 lkX4_72 fX4_moves vX4_moves (by decide) rfl rfl rfl rfl rfl (by decide) (Nat.le_of_ble_eq_true rfl) ?_
      rw [h.rows]
      refine x_istore_n (n := 3) hO dX4_wouldMove_28 rfl rfl (by decide) hN ?_
      refine x_iload_n hO dX4_wouldMove_29 rfl rfl ?_
      have pb := srt_pb wA.1 wA.ge x
      have p32 : aP s.1.1 x ≤ 32 := nL_le 32
      have u3 := aMu_33 s.1.1 (aB s.1.1 x)
      have d3 := aMd_33 s.1.1 p32
      unfold oM at hR
      unfold mMv
      by_cases g : aP s.1.1 x < aB s.1.1 x
      · rw [if_pos g] at hR ⊢
        refine x_if_ge (tgt := 39) hO dX4_wouldMove_30 (by decide) (fun c3 => ?_) (fun c3 => ?_)
        · refine x_iload_n hO dX4_wouldMove_39 rfl rfl ?_
          refine x_iret hO hR dX4_wouldMove_40 rfl ?_
          exact ⟨rfl, rfl⟩
        · exact absurd (by decide) c3
      · rw [if_neg g] at hR ⊢
        by_cases g2 : aMu s.1.1 (aB s.1.1 x) ≤ aMd s.1.1 (aP s.1.1 x)
        · rw [if_pos g2]
          rw [Nat.min_eq_left g2] at hR
          refine x_if_ge (tgt := 39) hO dX4_wouldMove_30 (by decide) (fun c3 => ?_) (fun c3 => ?_)
          · refine x_iload_n hO dX4_wouldMove_39 rfl rfl ?_
            refine x_iret hO hR dX4_wouldMove_40 rfl ?_
            exact ⟨rfl, rfl⟩
          · exact absurd (Int32.not_le.mp c3) (nI_pos (by omega))
        · rw [if_neg g2]
          rw [Nat.min_eq_right (by omega)] at hR
          refine x_if_ge (tgt := 39) hO dX4_wouldMove_30 (by decide) (fun c3 => ?_) (fun c3 => ?_)
          · exact absurd c3 (nm_neg _ (by omega)).2
          · refine x_iconst (v := (-1 : Int32)) hO dX4_wouldMove_33 rfl ?_
            refine x_iload_n hO dX4_wouldMove_34 rfl rfl ?_
            refine x_isub hO dX4_wouldMove_35 ?_
            rw [nm_back _ (by omega)]
            refine x_goto (tgt := 40) hO dX4_wouldMove_36 (by decide) ?_
            refine x_iret hO hR dX4_wouldMove_40 rfl ?_
            exact ⟨rfl, rfl⟩
    · have q : aCnt s.1.1 = 32 := by have := (nI_eq (b := 0) (by omega) (by decide)).mp c2; omega
      rw [if_pos q] at hR
      refine x_bipush (v := (-3 : Int32)) hO dX4_wouldMove_20 rfl ?_
      refine x_iret hO hR dX4_wouldMove_22 rfl ?_
      exact ⟨rfl, rfl⟩
  · rw [bI_0 c] at hR
    refine x_bipush (v := (-2 : Int32)) hO dX4_wouldMove_10 rfl ?_
    refine x_iret hO hR dX4_wouldMove_12 rfl ?_
    exact ⟨rfl, rfl⟩
theorem km_entriesFor (U : xP) (M : xM) (x y : Int32) : xMetI U mX4_entriesFor [.inr 9, .inl x, .inl y] M (quC M (q_ef x y)) := by
  refine xMetI.of (ty := .int) (L := [some (.inr 9), some (.inl x), some (.inl y)]) fX4_entriesFor rfl rfl (Nat.le_of_ble_eq_true rfl) (fun G hN hO hR => ?_)
  have hN : G.2.2.2.2.2.2.2.2.2.2.1 = 3 := hN
  have hO : xOK U G RX4 cX4_entriesFor 3 := hO
  unfold q_ef at hR
  refine x_iload_n hO dX4_entriesFor_0 rfl rfl ?_
  refine x_iload_n hO dX4_entriesFor_1 rfl rfl ?_
  refine x_callS1 hO (m_isRange U M x y) dX4_entriesFor_2 lkX4_103 fX4_isRange sX4_isRange rfl rfl (by decide) (Nat.le_of_ble_eq_true rfl) ?_
  refine x_if_eq (tgt := 16) hO dX4_entriesFor_5 (by decide) (fun c => ?_) (fun c => ?_)
  · rw [bI_0 c] at hR
    refine x_bipush (v := (-2 : Int32)) hO dX4_entriesFor_16 rfl ?_
    refine x_iret hO hR dX4_entriesFor_18 rfl ?_
    exact ⟨rfl, rfl⟩
  · rw [bI_1 c, if_pos rfl] at hR
    obtain ⟨ex, ey, lx, ly, lxy⟩ := rgB_c (bI_1 c)
    generalize x.toNatClampNeg = f at *
    generalize y.toNatClampNeg = g at *
    subst ex
    subst ey
    refine x_iload_n hO dX4_entriesFor_8 rfl rfl ?_
    refine x_iload_n hO dX4_entriesFor_9 rfl rfl ?_
    refine x_callS1 hO (m_blocks U M lx ly lxy) dX4_entriesFor_10 lkX4_106 fX4_blocks sX4_blocks rfl rfl (by decide) (Nat.le_of_ble_eq_true rfl) ?_
    refine x_goto (tgt := 18) hO dX4_entriesFor_13 (by decide) ?_
    refine x_iret hO hR dX4_entriesFor_18 rfl ?_
    exact ⟨rfl, rfl⟩
/-! ===== totals ===== -/
theorem m_rules (U : xP) (M : xM) : xMetI U mX4_rules [.inr 9] M (fun r M' => r = nI (nC (pP0 (nA M)) 32) ∧ M' = M) := by
  refine xMetI.of (ty := .int) (L := [some (.inr 9), none, none]) fX4_rules rfl rfl (Nat.le_of_ble_eq_true rfl) (fun G hN hO hR => ?_)
  have hN : G.2.2.2.2.2.2.2.2.2.2.1 = 3 := hN
  have hO : xOK U G RX4 cX4_rules 1 := hO
  refine x_iconst (v := nI 0) hO dX4_rules_0 rfl ?_
  refine x_istore_n (n := 3) hO dX4_rules_1 rfl rfl (by decide) hN ?_
  refine x_iconst (v := nI 0) hO dX4_rules_2 rfl ?_
  refine x_istore_n (n := 3) hO dX4_rules_3 rfl rfl (by decide) hN ?_
  refine upd_ind (P := fun i _ => XW U G 4 [some (.inr 9), some (.inl (nI (nC (pP0 (nA M)) i))), some (.inl (nI i))] [] M) 32 ?_ ?_ 32 0 rfl
  · refine x_iload_n hO dX4_rules_4 rfl rfl ?_
    refine x_bipush (v := nI 32) hO dX4_rules_5 rfl ?_
    refine x_icmp_ge (tgt := 41) hO dX4_rules_7 (by decide) (fun c => ?_) (fun c => ?_)
    · refine x_iload_n hO dX4_rules_41 rfl rfl ?_
      refine x_iret hO hR dX4_rules_42 rfl ?_
      exact ⟨rfl, rfl⟩
    · exact absurd (Int32.le_refl _) c
  · intro i d hd ih
    have hi : i < 32 := by omega
    refine x_iload_n hO dX4_rules_4 rfl rfl ?_
    refine x_bipush (v := nI 32) hO dX4_rules_5 rfl ?_
    refine x_icmp_ge (tgt := 41) hO dX4_rules_7 (by decide) (fun c => ?_) (fun c => ?_)
    · exact absurd c (nI_ge hi (by decide))
    · refine x_iload_n hO dX4_rules_10 rfl rfl ?_
      refine x_aload_n hO dX4_rules_11 rfl rfl ?_
      refine x_iload_n hO dX4_rules_12 rfl rfl ?_
      refine x_callV1 hO (m_isFree U M hi) dX4_rules_13 lkX4_51 fX4_isFree vX4_isFree (by decide) rfl rfl rfl rfl rfl (by decide) (Nat.le_of_ble_eq_true rfl) ?_
      refine x_if_ne (tgt := 32) hO dX4_rules_16 (by decide) (fun c2 => ?_) (fun c2 => ?_)
      · have e : aoc (nA M) i = false := by simpa using bI_1 c2
        rw [nC_f (by simp [pP0, e])] at ih
        refine x_iconst (v := nI 0) hO dX4_rules_32 rfl ?_
        refine x_iadd hO dX4_rules_33 ?_
        rw [nI_z]
        refine x_istore_n (n := 3) hO dX4_rules_34 rfl rfl (by decide) hN ?_
        refine x_iinc hO dX4_rules_35 rfl (by first | exact xinc_n _ | rfl) rfl hN ?_
        refine x_goto (tgt := 4) hO dX4_rules_38 (by decide) ?_
        exact ih
      · have e : aoc (nA M) i = true := by simpa using bI_0 c2
        refine x_aload_n hO dX4_rules_19 rfl rfl ?_
        refine x_iload_n hO dX4_rules_20 rfl rfl ?_
        refine x_iconst (v := nI 1) hO dX4_rules_21 rfl ?_
        refine x_callV1 hO (m_at U M e (w := 1) (by decide) (by decide)) dX4_rules_22 lkX4_55 fX4_at vX4_at (by decide) rfl rfl rfl rfl rfl (by decide) (Nat.le_of_ble_eq_true rfl) ?_
        refine x_if_ne (tgt := 32) hO dX4_rules_25 (by decide) (fun c3 => ?_) (fun c3 => ?_)
        · rw [nC_f (by simp [pP0, c3])] at ih
          refine x_iconst (v := nI 0) hO dX4_rules_32 rfl ?_
          refine x_iadd hO dX4_rules_33 ?_
          rw [nI_z]
          refine x_istore_n (n := 3) hO dX4_rules_34 rfl rfl (by decide) hN ?_
          refine x_iinc hO dX4_rules_35 rfl (by first | exact xinc_n _ | rfl) rfl hN ?_
          refine x_goto (tgt := 4) hO dX4_rules_38 (by decide) ?_
          exact ih
        · rw [nC_t (by simp [pP0, e, c3])] at ih
          refine x_iconst (v := nI 1) hO dX4_rules_28 rfl ?_
          refine x_goto (tgt := 33) hO dX4_rules_29 (by decide) ?_
          refine x_iadd hO dX4_rules_33 ?_
          rw [nI_1c]
          refine x_istore_n (n := 3) hO dX4_rules_34 rfl rfl (by decide) hN ?_
          refine x_iinc hO dX4_rules_35 rfl (by first | exact xinc_n _ | rfl) rfl hN ?_
          refine x_goto (tgt := 4) hO dX4_rules_38 (by decide) ?_
          exact ih
theorem m_never (U : xP) (M : xM) : xMetI U mX4_entriesWithoutKeys [.inr 9] M (fun r M' => r = nI (aNever (nA M)) ∧ M' = M) := by
  refine xMetI.of (ty := .int) (L := [some (.inr 9), none, none]) fX4_entriesWithoutKeys rfl rfl (Nat.le_of_ble_eq_true rfl) (fun G hN hO hR => ?_)
  have hN : G.2.2.2.2.2.2.2.2.2.2.1 = 3 := hN
  have hO : xOK U G RX4 cX4_entriesWithoutKeys 4 := hO
  refine x_iconst (v := nI 0) hO dX4_entriesWithoutKeys_0 rfl ?_
  refine x_istore_n (n := 3) hO dX4_entriesWithoutKeys_1 rfl rfl (by decide) hN ?_
  refine x_iconst (v := nI 0) hO dX4_entriesWithoutKeys_2 rfl ?_
  refine x_istore_n (n := 3) hO dX4_entriesWithoutKeys_3 rfl rfl (by decide) hN ?_
  refine upd_ind (P := fun i _ => XW U G 4 [some (.inr 9), some (.inl (nI (nC (fun s => aoc (nA M) s && (aKs (nA M) (nI s) 256 == 0)) i))), some (.inl (nI i))] [] M) 32 ?_ ?_ 32 0 rfl
  · refine x_iload_n hO dX4_entriesWithoutKeys_4 rfl rfl ?_
    refine x_bipush (v := nI 32) hO dX4_entriesWithoutKeys_5 rfl ?_
    refine x_icmp_ge (tgt := 40) hO dX4_entriesWithoutKeys_7 (by decide) (fun c => ?_) (fun c => ?_)
    · refine x_iload_n hO dX4_entriesWithoutKeys_40 rfl rfl ?_
      refine x_iret hO hR dX4_entriesWithoutKeys_41 rfl ?_
      exact ⟨rfl, rfl⟩
    · exact absurd (Int32.le_refl _) c
  · intro i d hd ih
    have hi : i < 32 := by omega
    have l := nC_le (fun k => aFd (nA M) (nI k) == i) 256
    refine x_iload_n hO dX4_entriesWithoutKeys_4 rfl rfl ?_
    refine x_bipush (v := nI 32) hO dX4_entriesWithoutKeys_5 rfl ?_
    refine x_icmp_ge (tgt := 40) hO dX4_entriesWithoutKeys_7 (by decide) (fun c => ?_) (fun c => ?_)
    · exact absurd c (nI_ge hi (by decide))
    · refine x_iload_n hO dX4_entriesWithoutKeys_10 rfl rfl ?_
      refine x_aload_n hO dX4_entriesWithoutKeys_11 rfl rfl ?_
      refine x_iload_n hO dX4_entriesWithoutKeys_12 rfl rfl ?_
      refine x_callV1 hO (m_isFree U M hi) dX4_entriesWithoutKeys_13 lkX4_51 fX4_isFree vX4_isFree (by decide) rfl rfl rfl rfl rfl (by decide) (Nat.le_of_ble_eq_true rfl) ?_
      refine x_if_ne (tgt := 31) hO dX4_entriesWithoutKeys_16 (by decide) (fun c2 => ?_) (fun c2 => ?_)
      · have e : aoc (nA M) i = false := by simpa using bI_1 c2
        rw [nC_f (P := fun s => aoc (nA M) s && (aKs (nA M) (nI s) 256 == 0)) (by simp [e])] at ih
        refine x_iconst (v := nI 0) hO dX4_entriesWithoutKeys_31 rfl ?_
        refine x_iadd hO dX4_entriesWithoutKeys_32 ?_
        rw [nI_z]
        refine x_istore_n (n := 3) hO dX4_entriesWithoutKeys_33 rfl rfl (by decide) hN ?_
        refine x_iinc hO dX4_entriesWithoutKeys_34 rfl (by first | exact xinc_n _ | rfl) rfl hN ?_
        refine x_goto (tgt := 4) hO dX4_entriesWithoutKeys_37 (by decide) ?_
        exact ih
      · have e : aoc (nA M) i = true := by simpa using bI_0 c2
        refine x_aload_n hO dX4_entriesWithoutKeys_19 rfl rfl ?_
        refine x_iload_n hO dX4_entriesWithoutKeys_20 rfl rfl ?_
        refine x_callV1 hO (m_keysWith U M (j := i) (by omega)) dX4_entriesWithoutKeys_21 lkX4_183 fX4_keysWith vX4_keysWith (by decide) rfl rfl rfl rfl rfl (by decide) (Nat.le_of_ble_eq_true rfl) ?_
        refine x_if_ne (tgt := 31) hO dX4_entriesWithoutKeys_24 (by decide) (fun c3 => ?_) (fun c3 => ?_)
        · have z : ¬ aKs (nA M) (nI i) 256 = 0 := fun z => c3 (by rw [← aKs_j _ hi, z]; rfl)
          rw [nC_f (P := fun s => aoc (nA M) s && (aKs (nA M) (nI s) 256 == 0)) (by simp [z])] at ih
          refine x_iconst (v := nI 0) hO dX4_entriesWithoutKeys_31 rfl ?_
          refine x_iadd hO dX4_entriesWithoutKeys_32 ?_
          rw [nI_z]
          refine x_istore_n (n := 3) hO dX4_entriesWithoutKeys_33 rfl rfl (by decide) hN ?_
          refine x_iinc hO dX4_entriesWithoutKeys_34 rfl (by first | exact xinc_n _ | rfl) rfl hN ?_
          refine x_goto (tgt := 4) hO dX4_entriesWithoutKeys_37 (by decide) ?_
          exact ih
        · have z : aKs (nA M) (nI i) 256 = 0 := by rw [aKs_j _ hi]; exact (nI_eq (b := 0) (by omega) (by decide)).mp c3
          rw [nC_t (P := fun s => aoc (nA M) s && (aKs (nA M) (nI s) 256 == 0)) (by simp [e, z])] at ih
          refine x_iconst (v := nI 1) hO dX4_entriesWithoutKeys_27 rfl ?_
          refine x_goto (tgt := 32) hO dX4_entriesWithoutKeys_28 (by decide) ?_
          refine x_iadd hO dX4_entriesWithoutKeys_32 ?_
          rw [nI_1c]
          refine x_istore_n (n := 3) hO dX4_entriesWithoutKeys_33 rfl rfl (by decide) hN ?_
          refine x_iinc hO dX4_entriesWithoutKeys_34 rfl (by first | exact xinc_n _ | rfl) rfl hN ?_
          refine x_goto (tgt := 4) hO dX4_entriesWithoutKeys_37 (by decide) ?_
          exact ih
theorem km_total (U : xP) (M : xM) {s : aO} (h : RM M s) (x : Int32) : xMetI U mX4_total [.inr 9, .inl x] M (quC M (q_total s x)) := by
  refine xMetI.of (ty := .int) (L := [some (.inr 9), some (.inl x)]) fX4_total rfl rfl (Nat.le_of_ble_eq_true rfl) (fun G hN hO hR => ?_)
  have hN : G.2.2.2.2.2.2.2.2.2.2.1 = 2 := hN
  have hO : xOK U G RX4 cX4_total 5 := hO
  obtain ⟨n, hn, h9, e1⟩ := h.2.2.2
  obtain ⟨c, h4, h6, h7⟩ := h.2.2.1
  have num : ∀ j, j < 5 → M 10 (224 + j) = s.1.2 j := fun j hj => by rw [← h.nums, nG_at M hj]
  have l224 : 224 < 229 := by decide
  have l225 : 225 < 229 := by decide
  have l226 : 226 < 229 := by decide
  have l227 : 227 < 229 := by decide
  have l228 : 228 < 229 := by decide
  refine x_iload_n hO dX4_total_0 rfl rfl ?_
  by_cases hx : 0 ≤ x.toInt ∧ x.toInt ≤ 10
  · obtain ⟨k, hk, rfl⟩ : ∃ k : Nat, k ≤ 10 ∧ x = nI k := by
      obtain ⟨k, hk, rfl⟩ := nI_of (x := x) (by rw [Int32.lt_iff_toInt_lt]; simp; omega)
      rw [nI_toInt hk] at hx
      exact ⟨k, by omega, rfl⟩
    have ht : (nI k).toInt = k := nI_toInt (by omega)
    obtain rfl | rfl | rfl | rfl | rfl | rfl | rfl | rfl | rfl | rfl | rfl : k = 0 ∨ k = 1 ∨ k = 2 ∨ k = 3 ∨ k = 4 ∨ k = 5 ∨ k = 6 ∨ k = 7 ∨ k = 8 ∨ k = 9 ∨ k = 10 := by omega
    · refine x_tableIn (tgt := 60) hO dX4_total_1 (by decide) (by decide) (show _ = some 59 by decide) (by decide) ?_
      refine x_aload_n hO dX4_total_60 rfl rfl ?_
      refine x_callV1 hO (m_entries U M) dX4_total_61 lkX4_44 fX4_entries vX4_entries (by decide) rfl rfl rfl rfl rfl (by decide) (Nat.le_of_ble_eq_true rfl) ?_
      rw [h.rows]
      refine x_iret hO hR dX4_total_64 rfl ?_
      exact ⟨rfl, rfl⟩
    · refine x_tableIn (tgt := 65) hO dX4_total_1 (by decide) (by decide) (show _ = some 64 by decide) (by decide) ?_
      refine x_aload_n hO dX4_total_65 rfl rfl ?_
      refine x_callV1 hO (m_rules U M) dX4_total_66 lkX4_186 fX4_rules vX4_rules (by decide) rfl rfl rfl rfl rfl (by decide) (Nat.le_of_ble_eq_true rfl) ?_
      rw [h.rows]
      refine x_iret hO hR dX4_total_69 rfl ?_
      exact ⟨rfl, rfl⟩
    · refine x_tableIn (tgt := 70) hO dX4_total_1 (by decide) (by decide) (show _ = some 69 by decide) (by decide) ?_
      refine x_aload_n hO dX4_total_70 rfl rfl ?_
      refine x_getR (T := TX4) (j := 0) hO dX4_total_71 flX4_7 (by decide) rfl rfl (by decide) rfl rfl ?_
      refine x_sipush (v := nI 225) hO dX4_total_74 rfl ?_
      refine x_iald hO (by decide) rfl (by decide) (rfl) (l225) dX4_total_77 ?_
      rw [show M 10 225 = s.1.2 1 from num 1 (by decide)]
      refine x_iret hO hR dX4_total_78 rfl ?_
      exact ⟨rfl, rfl⟩
    · refine x_tableIn (tgt := 79) hO dX4_total_1 (by decide) (by decide) (show _ = some 78 by decide) (by decide) ?_
      refine x_aload_n hO dX4_total_79 rfl rfl ?_
      refine x_getR (T := TX4) (j := 0) hO dX4_total_80 flX4_7 (by decide) rfl rfl (by decide) rfl rfl ?_
      refine x_sipush (v := nI 224) hO dX4_total_83 rfl ?_
      refine x_iald hO (by decide) rfl (by decide) (rfl) (l224) dX4_total_86 ?_
      rw [show M 10 224 = s.1.2 0 from num 0 (by decide)]
      refine x_iret hO hR dX4_total_87 rfl ?_
      exact ⟨rfl, rfl⟩
    · refine x_tableIn (tgt := 88) hO dX4_total_1 (by decide) (by decide) (show _ = some 87 by decide) (by decide) ?_
      refine x_aload_n hO dX4_total_88 rfl rfl ?_
      refine x_getR (T := TX4) (j := 0) hO dX4_total_89 flX4_7 (by decide) rfl rfl (by decide) rfl rfl ?_
      refine x_sipush (v := nI 226) hO dX4_total_92 rfl ?_
      refine x_iald hO (by decide) rfl (by decide) (rfl) (l226) dX4_total_95 ?_
      rw [show M 10 226 = s.1.2 2 from num 2 (by decide)]
      refine x_iret hO hR dX4_total_96 rfl ?_
      exact ⟨rfl, rfl⟩
    · refine x_tableIn (tgt := 97) hO dX4_total_1 (by decide) (by decide) (show _ = some 96 by decide) (by decide) ?_
      refine x_aload_n hO dX4_total_97 rfl rfl ?_
      refine x_getR (T := TX4) (j := 0) hO dX4_total_98 flX4_7 (by decide) rfl rfl (by decide) rfl rfl ?_
      refine x_sipush (v := nI 227) hO dX4_total_101 rfl ?_
      refine x_iald hO (by decide) rfl (by decide) (rfl) (l227) dX4_total_104 ?_
      rw [show M 10 227 = s.1.2 3 from num 3 (by decide)]
      refine x_iret hO hR dX4_total_105 rfl ?_
      exact ⟨rfl, rfl⟩
    · refine x_tableIn (tgt := 106) hO dX4_total_1 (by decide) (by decide) (show _ = some 105 by decide) (by decide) ?_
      refine x_aload_n hO dX4_total_106 rfl rfl ?_
      refine x_getR (T := TX4) (j := 0) hO dX4_total_107 flX4_7 (by decide) rfl rfl (by decide) rfl rfl ?_
      refine x_sipush (v := nI 228) hO dX4_total_110 rfl ?_
      refine x_iald hO (by decide) rfl (by decide) (rfl) (l228) dX4_total_113 ?_
      rw [show M 10 228 = s.1.2 4 from num 4 (by decide)]
      refine x_iret hO hR dX4_total_114 rfl ?_
      exact ⟨rfl, rfl⟩
    · refine x_tableIn (tgt := 115) hO dX4_total_1 (by decide) (by decide) (show _ = some 114 by decide) (by decide) ?_
      refine x_aload_n hO dX4_total_115 rfl rfl ?_
      refine x_callV1 hO (m_never U M) dX4_total_116 lkX4_189 fX4_entriesWithoutKeys vX4_entriesWithoutKeys (by decide) rfl rfl rfl rfl rfl (by decide) (Nat.le_of_ble_eq_true rfl) ?_
      rw [h.rows]
      refine x_iret hO hR dX4_total_119 rfl ?_
      exact ⟨rfl, rfl⟩
    · refine x_tableIn (tgt := 120) hO dX4_total_1 (by decide) (by decide) (show _ = some 119 by decide) (by decide) ?_
      refine x_aload_n hO dX4_total_120 rfl rfl ?_
      refine x_bipush (v := nI 32) hO dX4_total_121 rfl ?_
      refine x_callV1 hO (m_keysWith U M (j := 32) (by decide)) dX4_total_123 lkX4_183 fX4_keysWith vX4_keysWith (by decide) rfl rfl rfl rfl rfl (by decide) (Nat.le_of_ble_eq_true rfl) ?_
      rw [h.rows, ← aKs_m]
      refine x_iret hO hR dX4_total_126 rfl ?_
      exact ⟨rfl, rfl⟩
    · refine x_tableIn (tgt := 127) hO dX4_total_1 (by decide) (by decide) (show _ = some 126 by decide) (by decide) ?_
      refine x_aload_n hO dX4_total_127 rfl rfl ?_
      refine x_getI (T := TX4) (j := 3) hO dX4_total_128 flX4_32 (by decide) rfl rfl (by decide) rfl rfl ?_
      rw [h6]
      refine x_iret hO hR dX4_total_131 rfl ?_
      exact ⟨by show nI c = nI s.2.2.1.length; rw [h7]; simp, rfl⟩
    · refine x_tableIn (tgt := 132) hO dX4_total_1 (by decide) (by decide) (show _ = some 131 by decide) (by decide) ?_
      refine x_aload_n hO dX4_total_132 rfl rfl ?_
      refine x_getI (T := TX4) (j := 7) hO dX4_total_133 flX4_143 (by decide) rfl rfl (by decide) rfl rfl ?_
      rw [h9]
      refine x_iret hO hR dX4_total_136 rfl ?_
      exact ⟨by show nI n = nI s.2.2.2.1; rw [e1], rfl⟩
  · have hbig : x.toInt < 0 ∨ 10 < x.toInt := by omega
    refine x_tableOut (tgt := 137) hO dX4_total_1 hbig (by decide) ?_
    refine x_bipush (v := (-2 : Int32)) hO dX4_total_137 rfl ?_
    refine x_iret hO hR dX4_total_139 rfl ?_
    refine ⟨?_, rfl⟩
    unfold q_total
    have ne : ∀ k : Nat, k ≤ 10 → x ≠ nI k := by
      rintro k hk rfl
      rw [nI_toInt (by omega)] at hbig
      omega
    rw [if_neg (ne 0 (by decide)), if_neg (ne 1 (by decide)), if_neg (ne 2 (by decide)), if_neg (ne 3 (by decide)), if_neg (ne 4 (by decide)), if_neg (ne 5 (by decide)), if_neg (ne 6 (by decide)), if_neg (ne 7 (by decide)), if_neg (ne 8 (by decide)), if_neg (ne 9 (by decide)), if_neg (ne 10 (by decide))]
