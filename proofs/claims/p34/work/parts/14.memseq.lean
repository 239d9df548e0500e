/-! ===== Memory.addBlocks ===== -/
theorem nC_ins {P Q : Nat → Bool} {t : Nat} (ht : P t = false) : ∀ {n : Nat}, t < n → (∀ s, s < n → Q s = (P s || s == t)) → nC Q n = nC P n + 1
  | 0, h, _ => by omega
  | n + 1, h, hq => by
    rcases Nat.lt_or_ge t n with q | q
    · have := nC_ins ht q (fun s hs => hq s (by omega))
      have e : Q n = P n := by rw [hq n (by omega), beq_false_of_ne (by omega : n ≠ t), Bool.or_false]
      simp only [nC, this, e]
      omega
    · obtain rfl : t = n := by omega
      have e : nC Q t = nC P t := nC_congr (fun s hs => by rw [hq s (by omega), beq_false_of_ne (by omega : s ≠ t), Bool.or_false])
      rw [nC_f ht, nC_t (by rw [hq t (by omega)]; simp), e]
theorem aGap {A : aR} {r : Int32} {s : Nat} (h1 : aP A r ≤ s) (h2 : s < aB A r) : aoc A s = false := by
  have b := aB_le A r
  have e1 := nL_no (P := pUp A r) h1 (by omega)
  have e2 := nF_no (P := pBy A r) 32 0 s (by omega) h2
  unfold pUp at e1
  unfold pBy at e2
  cases e : aoc A s with
  | false => rfl
  | true =>
    rw [e] at e1 e2
    simp at e1 e2
    exact absurd e1 (Int32.not_lt.mpr e2)
/-- a new row takes one free slot more -/
theorem aAdd_oc {A : aR} (P r : Int32) {row : Nat → Int32} (h : aCnt A < 32) (hr : row 0 ≠ -1) : ∃ t, t < 32 ∧ aoc A t = false ∧ ∀ s, s < 32 → aoc (aAdd A P r row) s = (aoc A s || s == t) := by
  have h1 := aP_le A r
  have h2 := aB_le A r
  have hrow : ∀ (B : aR) (s : Nat), B s = row → aoc B s = true := fun B s e => by unfold aoc; rw [e]; simpa using hr
  have hcop : ∀ (B : aR) (s t : Nat), B s = A t → aoc B s = aoc A t := fun B s t e => by unfold aoc; rw [e]
  rcases Nat.lt_or_ge (aP A r) (aB A r) with q | q
  · have hs := aPl_lt (P := P) h2 q
    refine ⟨aPl P (aP A r) (aB A r), by omega, aGap hs.1 hs.2, fun s _ => ?_⟩
    have e : oS A P r = aPl P (aP A r) (aB A r) := by unfold oS; rw [if_pos q]
    have e2 : oA A r = A := by unfold oA; rw [if_pos q]
    by_cases z : s = aPl P (aP A r) (aB A r)
    · rw [hrow _ s (by unfold aAdd; rw [e, if_pos z]), beq_iff_eq.mpr z, Bool.or_true]
    · rw [hcop _ s s (by unfold aAdd; rw [e, if_neg z, e2]), beq_false_of_ne z, Bool.or_false]
  · have h3 := oM_free h h1 q
    have u3 := aMu_33 A (aB A r)
    have d3 := aMd_33 A h1
    have nq : ¬ aP A r < aB A r := by omega
    by_cases q2 : aMu A (aB A r) ≤ aMd A (aP A r)
    · obtain ⟨a1, a2, a3⟩ := aMu_le (A := A) (f := aB A r) (by omega)
      have e : oS A P r = aB A r := by unfold oS; rw [if_neg nq, if_pos q2]
      have e2 : oA A r = aUp A (aB A r) (aMu A (aB A r)) 0 := by unfold oA; rw [if_neg nq, if_pos q2]
      generalize aMu A (aB A r) = n at *
      generalize aB A r = b at *
      refine ⟨b + n, a1, a2, fun s _ => ?_⟩
      by_cases z : s = b
      · rw [hrow _ s (by unfold aAdd; rw [e, if_pos z])]
        by_cases z2 : n = 0
        · rw [beq_iff_eq.mpr (by omega), Bool.or_true]
        · rw [a3 s (by omega) (by omega), Bool.true_or]
      · by_cases z2 : b < s ∧ s ≤ b + n
        · rw [hcop _ s (s - 1) (by unfold aAdd; rw [e, if_neg z, e2]; unfold aUp; rw [if_pos (by omega)])]
          rw [a3 (s - 1) (by omega) (by omega)]
          by_cases z3 : s = b + n
          · rw [beq_iff_eq.mpr z3, Bool.or_true]
          · rw [a3 s (by omega) (by omega), Bool.true_or]
        · rw [hcop _ s s (by unfold aAdd; rw [e, if_neg z, e2]; unfold aUp; rw [if_neg (by omega), if_neg (by omega)]), beq_false_of_ne (by omega : s ≠ b + n), Bool.or_false]
    · obtain ⟨a1, a2, a3⟩ := aMd_le (A := A) h1 (by omega)
      have e : oS A P r = aP A r - 1 := by unfold oS; rw [if_neg nq, if_neg q2]
      have e2 : oA A r = aDn A (aP A r - 1) (aMd A (aP A r)) (aMd A (aP A r)) := by unfold oA; rw [if_neg nq, if_neg q2]
      generalize aMd A (aP A r) = n at *
      generalize aP A r = p at *
      refine ⟨p - 1 - n, by omega, a2, fun s _ => ?_⟩
      by_cases z : s = p - 1
      · rw [hrow _ s (by unfold aAdd; rw [e, if_pos z])]
        by_cases z2 : n = 0
        · rw [beq_iff_eq.mpr (by omega), Bool.or_true]
        · rw [a3 s (by omega) (by omega), Bool.true_or]
      · by_cases z2 : p - 1 - n ≤ s ∧ s < p - 1
        · rw [hcop _ s (s + 1) (by unfold aAdd; rw [e, if_neg z, e2]; unfold aDn; rw [if_pos (by omega)])]
          rw [a3 (s + 1) (by omega) (by omega)]
          by_cases z3 : s = p - 1 - n
          · rw [beq_iff_eq.mpr z3, Bool.or_true]
          · rw [a3 s (by omega) (by omega), Bool.true_or]
        · rw [hcop _ s s (by unfold aAdd; rw [e, if_neg z, e2]; unfold aDn; rw [if_neg (by omega), if_neg (by omega)]), beq_false_of_ne (by omega : s ≠ p - 1 - n), Bool.or_false]
theorem aCnt_add {A : aR} (P r : Int32) {row : Nat → Int32} (h : aCnt A < 32) (hr : row 0 ≠ -1) : aCnt (aAdd A P r row) = aCnt A + 1 := by
  obtain ⟨t, h1, h2, h3⟩ := aAdd_oc P r h hr
  exact nC_ins h2 h1 h3
/-- the blocks from f to h, the next part's number part, one by one: the rows, and the moves -/
def aBlk (P k a rule : Int32) (h : Nat) : Nat → Nat → Nat → aR × Int32 → aR × Int32
  | 0, _, _, x => x
  | d + 1, part, f, x => if h < f then x else aBlk P k a rule h d (part + 1) (f + bS f h) (aAdd x.1 P k (rowOf rule (nI part) (nI (256 - bS f h)) (nI f) k a), x.2 + nI (oM x.1 k))
theorem k_addBlocks (U : xP) (M : xM) {lo h : Nat} (hlo : lo < 256) (hh : h < 256) (k a : Int32) (hc : aCnt (cA M 16) + bCn h lo 14 ≤ 32) (hr : M 16 8 ≠ -1) : xMetI U mX1_addBlocks [.inr 16, .inl (nI lo), .inl (nI h), .inl k, .inl a] M (fun r M' => r = M 16 8 ∧ mSt M M' (aBlk (M 16 7) k a (M 16 8) h 14 0 lo (cA M 16, M 16 9)).1 (upd (upd (M 16) 8 (M 16 8 + nI 1)) 9 (aBlk (M 16 7) k a (M 16 8) h 14 0 lo (cA M 16, M 16 9)).2)) := by
  refine xMetI.of (ty := .int) (L := [some (.inr 16), some (.inl (nI lo)), some (.inl (nI h)), some (.inl k), some (.inl a), none, none, none, none]) fX1_addBlocks rfl rfl (Nat.le_of_ble_eq_true rfl) (fun G hN hO hR => ?_)
  have hN : G.2.2.2.2.2.2.2.2.2.2.1 = 9 := hN
  have hO : xOK U G RX1 cX1_addBlocks 4 := hO
  generalize hg : aBlk (M 16 7) k a (M 16 8) h 14 0 lo (cA M 16, M 16 9) = g at hR
  refine x_aload_n hO dX1_addBlocks_0 rfl rfl ?_
  refine x_getI (T := TX1) (j := 8) hO dX1_addBlocks_1 flX1_37 (by decide) rfl rfl (by decide) rfl rfl ?_
  refine x_istore (n := 9) hO dX1_addBlocks_4 rfl (by decide) hN ?_
  refine x_aload_n hO dX1_addBlocks_6 rfl rfl ?_
  refine x_dup hO dX1_addBlocks_7 ?_
  refine x_getI (T := TX1) (j := 8) hO dX1_addBlocks_8 flX1_37 (by decide) rfl rfl (by decide) rfl rfl ?_
  refine x_iconst (v := nI 1) hO dX1_addBlocks_11 rfl ?_
  refine x_iadd hO dX1_addBlocks_12 ?_
  refine x_put (T := TX1) (j := 8) (ty := .int) hO dX1_addBlocks_13 flX1_37 (by decide) rfl rfl (by decide) rfl rfl rfl (by decide +kernel) rfl rfl ?_
  refine x_iload_n hO dX1_addBlocks_16 rfl rfl ?_
  refine x_istore (n := 9) hO dX1_addBlocks_17 rfl (by decide) hN ?_
  refine x_iconst (v := nI 0) hO dX1_addBlocks_19 rfl ?_
  refine x_istore (n := 9) hO dX1_addBlocks_20 rfl (by decide) hN ?_
  have h1 := mSt.num (M := M) 8 (by decide) (M 16 8 + nI 1)
  generalize xset M 16 8 (M 16 8 + nI 1) = M1 at h1 ⊢
  have h0 : upd (M 16) 8 (M 16 8 + nI 1) = upd (upd (M 16) 8 (M 16 8 + nI 1)) 9 (M 16 9) := by
    funext j
    unfold upd
    by_cases e : j = 9
    · simp [e]
    · simp [e]
  rw [h0] at h1
  refine upd_ind (P := fun i d => ∀ (f : Nat) (o : Option xV) (A1 : aR) (mv : Int32) (M1 : xM), f ≤ 256 → aCnt A1 + bCn h f d ≤ 32 → mSt M M1 A1 (upd (upd (M 16) 8 (M 16 8 + nI 1)) 9 mv) → aBlk (M 16 7) k a (M 16 8) h d i f (A1, mv) = g → XW U G 22 [some (.inr 16), some (.inl (nI lo)), some (.inl (nI h)), some (.inl k), some (.inl a), some (.inl (M 16 8)), some (.inl (nI f)), some (.inl (nI i)), o] [] M1) 14 ?_ ?_ 14 0 rfl lo _ (cA M 16) (M 16 9) M1 (by omega) hc h1 hg
  · intro f o A1 mv M1 hf _ h1 hg
    refine x_iload hO dX1_addBlocks_22 rfl ?_
    refine x_bipush (v := nI 14) hO dX1_addBlocks_24 rfl ?_
    refine x_icmp_ge (tgt := 80) hO dX1_addBlocks_26 (by decide) (fun c => ?_) (fun c => ?_)
    · refine x_iload hO dX1_addBlocks_80 rfl ?_
      refine x_iret hO hR dX1_addBlocks_82 rfl ?_
      simp only [aBlk] at hg
      rw [← hg]
      exact ⟨rfl, h1⟩
    · exact absurd (Int32.le_refl _) c
  · intro i d hd ih f o A1 mv M1 hf hc1 h1 hg
    have e7 : M1 16 7 = M 16 7 := by rw [h1.2.1]; rfl
    have e9 : M1 16 9 = mv := by rw [h1.2.1]; rfl
    simp only [aBlk] at hg
    simp only [bCn] at hc1
    refine x_iload hO dX1_addBlocks_22 rfl ?_
    refine x_bipush (v := nI 14) hO dX1_addBlocks_24 rfl ?_
    refine x_icmp_ge (tgt := 80) hO dX1_addBlocks_26 (by decide) (fun c => ?_) (fun c => ?_)
    · exact absurd c (nI_ge (by omega) (by decide))
    · refine x_iload hO dX1_addBlocks_29 rfl ?_
      refine x_iload_n hO dX1_addBlocks_31 rfl rfl ?_
      refine x_icmp_gt (tgt := 80) hO dX1_addBlocks_32 (by decide) (fun c2 => ?_) (fun c2 => ?_)
      · have q : h < f := (nI_ltI (by omega) (by omega)).mp c2
        rw [if_pos q] at hg
        refine x_iload hO dX1_addBlocks_80 rfl ?_
        refine x_iret hO hR dX1_addBlocks_82 rfl ?_
        rw [← hg]
        exact ⟨rfl, h1⟩
      · have q : ¬ h < f := fun z => c2 ((nI_ltI (by omega) (by omega)).mpr z)
        have q2 := bS_fit (f := f) (h := h) (by omega)
        have q3 := bS_le f h
        rw [if_neg q] at hg hc1
        refine x_iload hO dX1_addBlocks_35 rfl ?_
        refine x_iload_n hO dX1_addBlocks_37 rfl rfl ?_
        refine x_callSN1 hO (k_blockSize U M1 (f := f) (h := h) (by omega) hh) dX1_addBlocks_38 lkX1_71 fX3_blockSize sX3_blockSize rfl rfl (by decide) (Nat.le_of_ble_eq_true rfl) ?_
        refine x_istore (n := 9) hO dX1_addBlocks_41 rfl (by decide) hN ?_
        refine x_aload_n hO dX1_addBlocks_43 rfl rfl ?_
        refine x_aload_n hO dX1_addBlocks_44 rfl rfl ?_
        refine x_iload_n hO dX1_addBlocks_45 rfl rfl ?_
        refine x_callV hO (k_openSlot U M1 k (by rw [h1.1]; omega)) dX1_addBlocks_46 lkX1_64 fX1_openSlot vX1_openSlot (by decide) rfl rfl rfl rfl rfl (by decide) (Nat.le_of_ble_eq_true rfl) (fun r M' h2 => ?_)
        obtain ⟨rfl, h2⟩ := h2
        have h3 := mSt.tr h1 h2
        rw [h1.1, e9, h1.2.1] at h3
        rw [h1.1, e7]
        refine x_iload hO dX1_addBlocks_49 rfl ?_
        refine x_iload hO dX1_addBlocks_51 rfl ?_
        refine x_sipush (v := nI 256) hO dX1_addBlocks_53 rfl ?_
        refine x_iload hO dX1_addBlocks_56 rfl ?_
        refine x_isub hO dX1_addBlocks_58 ?_
        rw [pk_sub (by omega)]
        refine x_iload hO dX1_addBlocks_59 rfl ?_
        refine x_iload_n hO dX1_addBlocks_61 rfl rfl ?_
        refine x_iload hO dX1_addBlocks_62 rfl ?_
        refine x_callVv hO (k_fill U M' (j := oS A1 (M 16 7) k) (oS_lt _ _ (by omega)) (M 16 8) (nI i) (nI (256 - bS f h)) (nI f) k a hr) dX1_addBlocks_64 lkX1_67 fX1_fill vX1_fill (by decide) rfl rfl rfl rfl rfl (by decide) (Nat.le_of_ble_eq_true rfl) (fun M' h4 => ?_)
        have h5 := mSt.tr h3 h4
        rw [h3.1, h3.2.1] at h5
        have e : upd (upd (upd (M 16) 8 (M 16 8 + nI 1)) 9 mv) 9 (mv + nI (oM A1 k)) = upd (upd (M 16) 8 (M 16 8 + nI 1)) 9 (mv + nI (oM A1 k)) := by
          funext j
          unfold upd
          split <;> rfl
        rw [e] at h5
        have h5 : mSt M M' (aAdd A1 (M 16 7) k (rowOf (M 16 8) (nI i) (nI (256 - bS f h)) (nI f) k a)) (upd (upd (M 16) 8 (M 16 8 + nI 1)) 9 (mv + nI (oM A1 k))) := h5
        have hn : aCnt (aAdd A1 (M 16 7) k (rowOf (M 16 8) (nI i) (nI (256 - bS f h)) (nI f) k a)) = aCnt A1 + 1 := aCnt_add _ _ (by omega) hr
        refine x_iload hO dX1_addBlocks_67 rfl ?_
        refine x_iload hO dX1_addBlocks_69 rfl ?_
        refine x_iadd hO dX1_addBlocks_71 ?_
        rw [nI_add]
        refine x_istore (n := 9) hO dX1_addBlocks_72 rfl (by decide) hN ?_
        refine x_iinc hO dX1_addBlocks_74 rfl (by first | exact xinc_n _ | rfl) rfl hN ?_
        refine x_goto (tgt := 22) hO dX1_addBlocks_77 (by decide) ?_
        exact ih (f + bS f h) _ _ _ _ (by omega) (by omega) h5 hg
/-! ===== Memory.moveToFront, moveIntoShares ===== -/
/-- the slot of the entry with the place c in the order -/
def kth (A : aR) (c : Nat) : Nat := nF (fun s => aoc A s && (nC (aoc A) s == c)) 0 32
theorem nC_mono {P : Nat → Bool} : ∀ {a b : Nat}, a ≤ b → nC P a ≤ nC P b
  | a, 0, h => by obtain rfl : a = 0 := (by omega); exact Nat.le_refl _
  | a, b + 1, h => by
    rcases Nat.lt_or_ge b a with q | q
    · obtain rfl : a = b + 1 := (by omega)
      exact Nat.le_refl _
    · have := nC_mono (P := P) q
      simp only [nC]
      omega
theorem kth_at {A : aR} {s : Nat} (hs : s < 32) (h : aoc A s = true) : kth A (nC (aoc A) s) = s := by
  refine nF_eq (Nat.zero_le _) (by omega) (fun j _ hj => ?_) (fun _ => by simp [h])
  cases e : aoc A j with
  | false => rfl
  | true =>
    have h1 := nC_mono (P := aoc A) (a := j + 1) (b := s) (by omega)
    rw [nC_t e] at h1
    simp
    omega
/-- the rows when the first i slots' entries have gone to the front -/
def aFr (A : aR) (i : Nat) : aR := fun s => if s < nC (aoc A) i then A (kth A s) else if s < i then eR else A s
theorem aFr_0 (A : aR) : aFr A 0 = A := by
  funext s
  simp [aFr, nC]
theorem aFr_f {A : aR} {i : Nat} (h : aoc A i = false) (he : A i = eR) : aFr A (i + 1) = aFr A i := by
  funext s
  unfold aFr
  rw [nC_f h]
  by_cases q : s = i
  · subst q
    have z := nC_le (aoc A) s
    simp [Nat.not_lt.mpr z, he]
  · have : s < i + 1 ↔ s < i := by omega
    simp only [this]
theorem aFr_t {A : aR} {i : Nat} (hi : i < 32) (h : aoc A i = true) : aMv (aFr A i) i (nC (aoc A) i) = aFr A (i + 1) := by
  have hc := nC_le (aoc A) i
  have hk := kth_at hi h
  funext s
  unfold aMv aFr
  rw [nC_t h]
  generalize nC (aoc A) i = c at *
  by_cases q : i = c
  · rw [if_pos q]
    by_cases q2 : s = c
    · rw [if_neg (by omega), if_neg (by omega), if_pos (by omega), q2, hk, q]
    · by_cases q3 : s < c
      · rw [if_pos q3, if_pos (by omega)]
      · rw [if_neg q3, if_neg (by omega), if_neg (by omega), if_neg (by omega)]
  · rw [if_neg q]
    by_cases q2 : s = i
    · rw [if_pos q2, if_neg (by omega), if_pos (by omega)]
    · rw [if_neg q2]
      by_cases q3 : s = c
      · rw [if_pos q3, if_neg (by omega), if_neg (by omega), if_pos (by omega), q3, hk]
      · rw [if_neg q3]
        by_cases q4 : s < c
        · rw [if_pos q4, if_pos (by omega)]
        · rw [if_neg q4, if_neg (show ¬ s < c + 1 by omega)]
          have : s < i + 1 ↔ s < i := by omega
          simp only [this]
theorem k_moveToFront (U : xP) (M : xM) : xMetI U mX1_moveToFront [.inr 16] M (fun r M' => r = nI (aCnt (cA M 16)) ∧ mSt M M' (aFr (cA M 16) 32) (M 16)) := by
  refine xMetI.of (ty := .int) (L := [some (.inr 16), none, none]) fX1_moveToFront rfl rfl (Nat.le_of_ble_eq_true rfl) (fun G hN hO hR => ?_)
  have hN : G.2.2.2.2.2.2.2.2.2.2.1 = 3 := hN
  have hO : xOK U G RX1 cX1_moveToFront 2 := hO
  refine x_iconst (v := nI 0) hO dX1_moveToFront_0 rfl ?_
  refine x_istore_n (n := 3) hO dX1_moveToFront_1 rfl rfl (by decide) hN ?_
  refine x_iconst (v := nI 0) hO dX1_moveToFront_2 rfl ?_
  refine x_istore_n (n := 3) hO dX1_moveToFront_3 rfl rfl (by decide) hN ?_
  refine upd_ind (P := fun i _ => ∀ M1, mSt M M1 (aFr (cA M 16) i) (M 16) → XW U G 4 [some (.inr 16), some (.inl (nI (nC (aoc (cA M 16)) i))), some (.inl (nI i))] [] M1) 32 ?_ ?_ 32 0 rfl M (by rw [aFr_0]; exact mSt.rf M)
  · intro M1 h1
    refine x_iload_n hO dX1_moveToFront_4 rfl rfl ?_
    refine x_bipush (v := nI 32) hO dX1_moveToFront_5 rfl ?_
    refine x_icmp_ge (tgt := 33) hO dX1_moveToFront_7 (by decide) (fun c => ?_) (fun c => ?_)
    · refine x_iload_n hO dX1_moveToFront_33 rfl rfl ?_
      refine x_iret hO hR dX1_moveToFront_34 rfl ?_
      exact ⟨rfl, h1⟩
    · exact absurd (Int32.le_refl _) c
  · intro i d hd ih M1 h1
    have hi : i < 32 := by omega
    have hc := nC_le (aoc (cA M 16)) i
    have eo : aoc (cA M1 16) i = aoc (cA M 16) i := by
      rw [h1.1]
      unfold aoc aFr
      rw [if_neg (by omega), if_neg (by omega)]
    refine x_iload_n hO dX1_moveToFront_4 rfl rfl ?_
    refine x_bipush (v := nI 32) hO dX1_moveToFront_5 rfl ?_
    refine x_icmp_ge (tgt := 33) hO dX1_moveToFront_7 (by decide) (fun c => ?_) (fun c => ?_)
    · exact absurd c (nI_ge hi (by decide))
    · refine x_aload_n hO dX1_moveToFront_10 rfl rfl ?_
      refine x_iload_n hO dX1_moveToFront_11 rfl rfl ?_
      refine x_callV1 hO (k_holds M1 hi) dX1_moveToFront_12 lkX1_53 fX1_holdsEntry vX1_holdsEntry (by decide) rfl rfl rfl rfl rfl (by decide) (Nat.le_of_ble_eq_true rfl) ?_
      rw [eo]
      refine x_if_eq (tgt := 27) hO dX1_moveToFront_15 (by decide) (fun c2 => ?_) (fun c2 => ?_)
      · have e := bI_0 c2
        rw [nC_f e, aFr_f e (cA_none e)] at ih
        refine x_iinc hO dX1_moveToFront_27 rfl (by first | exact xinc_n _ | rfl) rfl hN ?_
        refine x_goto (tgt := 4) hO dX1_moveToFront_30 (by decide) ?_
        exact ih M1 h1
      · have e := bI_1 c2
        refine x_aload_n hO dX1_moveToFront_18 rfl rfl ?_
        refine x_iload_n hO dX1_moveToFront_19 rfl rfl ?_
        refine x_iload_n hO dX1_moveToFront_20 rfl rfl ?_
        refine x_callVv hO (k_moveEntry U M1 (i := i) (j := nC (aoc (cA M 16)) i) hi (by omega)) dX1_moveToFront_21 lkX1_102 fX1_moveEntry vX1_moveEntry (by decide) rfl rfl rfl rfl rfl (by decide) (Nat.le_of_ble_eq_true rfl) (fun M' h2 => ?_)
        have h3 := mSt.tr h1 h2
        rw [h1.1, h1.2.1, aFr_t hi e] at h3
        rw [nC_t e] at ih
        refine x_iinc hO dX1_moveToFront_24 rfl (by first | exact xinc_n _ | rfl) rfl hN ?_
        refine x_iinc hO dX1_moveToFront_27 rfl (by first | exact xinc_n _ | rfl) rfl hN ?_
        refine x_goto (tgt := 4) hO dX1_moveToFront_30 (by decide) ?_
        exact ih M' h3
/-- B has the entries of A, in their order, in the first slots of n shares -/
def isSp (A : aR) (n : Nat) (B : aR) : Prop := (∀ p, p < aCnt A → B (aTg n p) = A (kth A p)) ∧ ∀ s, (∀ p, p < aCnt A → aTg n p ≠ s) → B s = eR
theorem isSp.uni {A : aR} {n : Nat} {B C : aR} (h1 : isSp A n B) (h2 : isSp A n C) : B = C := by
  funext s
  rcases Classical.em (∃ p, p < aCnt A ∧ aTg n p = s) with ⟨p, hp, rfl⟩ | q
  · rw [h1.1 p hp, h2.1 p hp]
  · have q : ∀ p, p < aCnt A → aTg n p ≠ s := fun p hp e => q ⟨p, hp, e⟩
    rw [h1.2 s q, h2.2 s q]
/-- shares: no entry goes to a lower slot than its place, and no two to one -/
theorem aTg_ge {n p : Nat} (hn : n ≤ 32) : p ≤ aTg n p := by
  unfold aTg
  split
  · exact Nat.le_refl _
  · rename_i q
    rw [Nat.le_div_iff_mul_le (by omega), Nat.mul_comm]
    exact Nat.mul_le_mul_right _ hn
theorem aTg_lt2 {n p q : Nat} (hn : n ≤ 32) (h : p < q) : aTg n p < aTg n q := by
  unfold aTg
  split
  · exact h
  · rename_i z
    have e1 : 32 * p / n + 1 = (32 * p + n) / n := by rw [Nat.add_div_right _ (by omega)]
    have : (32 * p + n) / n ≤ 32 * q / n := Nat.div_le_div_right (by omega)
    omega
theorem k_moveIntoShares (U : xP) (M : xM) {n : Nat} (hn : n ≤ 32) (hc : aCnt (cA M 16) ≤ n) : xMetV U mX1_moveIntoShares [.inr 16, .inl (nI n)] M (fun M' => ∃ B, isSp (cA M 16) n B ∧ mSt M M' B (M 16)) := by
  refine xMetV.of (L := [some (.inr 16), some (.inl (nI n)), none, none]) fX1_moveIntoShares rfl rfl (Nat.le_of_ble_eq_true rfl) (fun G hN hO hR => ?_)
  have hN : G.2.2.2.2.2.2.2.2.2.2.1 = 4 := hN
  have hO : xOK U G RX1 cX1_moveIntoShares 3 := hO
  have hm : aCnt (cA M 16) ≤ 32 := aCnt_le _
  refine x_aload_n hO dX1_moveIntoShares_0 rfl rfl ?_
  refine x_callV hO (k_moveToFront U M) dX1_moveIntoShares_1 lkX1_108 fX1_moveToFront vX1_moveToFront (by decide) rfl rfl rfl rfl rfl (by decide) (Nat.le_of_ble_eq_true rfl) (fun r M' h1 => ?_)
  obtain ⟨rfl, h1⟩ := h1
  refine x_istore_n (n := 4) hO dX1_moveIntoShares_4 rfl rfl (by decide) hN ?_
  refine x_iload_n hO dX1_moveIntoShares_5 rfl rfl ?_
  refine x_iconst (v := nI 1) hO dX1_moveIntoShares_6 rfl ?_
  refine x_isub hO dX1_moveIntoShares_7 ?_
  have e0 : nI (aCnt (cA M 16)) - nI 1 = xm (aCnt (cA M 16)) := by
    cases aCnt (cA M 16) with
    | zero => rfl
    | succ j => exact nI_sub1 j
  rw [e0]
  refine x_istore_n (n := 4) hO dX1_moveIntoShares_8 rfl rfl (by decide) hN ?_
  have hF : aFr (cA M 16) 32 = fun s => if s < aCnt (cA M 16) then cA M 16 (kth (cA M 16) s) else eR := by
    funext s
    unfold aFr aCnt
    split
    · rfl
    · split
      · rfl
      · rw [cA_ge (by omega)]
  rw [hF] at h1
  generalize cA M 16 = A at *
  generalize hmm : aCnt A = m at *
  have loop : ∀ k, k ≤ m → ∀ (B : aR) (M1 : xM), mSt M M1 B (M 16) → (∀ p, k ≤ p → p < m → B (aTg n p) = A (kth A p)) → (∀ s, s < k → B s = A (kth A s)) → (∀ s, k ≤ s → (∀ p, k ≤ p → p < m → aTg n p ≠ s) → B s = eR) → XW U G 9 [some (.inr 16), some (.inl (nI n)), some (.inl (nI m)), some (.inl (xm k))] [] M1 := by
    intro k
    induction k with
    | zero =>
      intro _ B M1 h1 b1 b2 b3
      refine x_iload_n hO dX1_moveIntoShares_9 rfl rfl ?_
      refine x_if_lt (tgt := 29) hO dX1_moveIntoShares_10 (by decide) (fun c => ?_) (fun c => ?_)
      · refine x_vret hO hR dX1_moveIntoShares_29 ?_
        exact ⟨B, ⟨fun p hp => b1 p (Nat.zero_le _) (by rw [hmm] at hp; exact hp), fun s hs => b3 s (Nat.zero_le _) (fun p _ hp => hs p (by rw [hmm]; exact hp))⟩, h1⟩
      · exact absurd (by decide) c
    | succ k ih =>
      intro hk B M1 h1 b1 b2 b3
      have hk32 : k < 32 := by omega
      have ht : aTg n k < 32 := aTg_lt (by omega)
      have hge := aTg_ge (p := k) hn
      refine x_iload_n hO dX1_moveIntoShares_9 rfl rfl ?_
      refine x_if_lt (tgt := 29) hO dX1_moveIntoShares_10 (by decide) (fun c => ?_) (fun c => ?_)
      · exact absurd c (nI_pos (by omega))
      · refine x_aload_n hO dX1_moveIntoShares_13 rfl rfl ?_
        refine x_iload_n hO dX1_moveIntoShares_14 rfl rfl ?_
        refine x_iload_n hO dX1_moveIntoShares_15 rfl rfl ?_
        refine x_iload_n hO dX1_moveIntoShares_16 rfl rfl ?_
        refine x_callS1 hO (k_firstSlotOfShare U M1 (p := k) (by omega) hn) dX1_moveIntoShares_17 lkX1_105 fX1_firstSlotOfShare sX1_firstSlotOfShare rfl rfl (by decide) (Nat.le_of_ble_eq_true rfl) ?_
        refine x_callVv hO (k_moveEntry U M1 (i := k) (j := aTg n k) hk32 ht) dX1_moveIntoShares_20 lkX1_102 fX1_moveEntry vX1_moveEntry (by decide) rfl rfl rfl rfl rfl (by decide) (Nat.le_of_ble_eq_true rfl) (fun M' h2 => ?_)
        have h3 := mSt.tr h1 h2
        rw [h1.1, h1.2.1] at h3
        refine x_iinc hO dX1_moveIntoShares_23 rfl (xm_dec k) rfl hN ?_
        refine x_goto (tgt := 9) hO dX1_moveIntoShares_26 (by decide) ?_
        refine ih (by omega) _ M' h3 (fun p hp hpm => ?_) (fun s hs => ?_) (fun s hs hs2 => ?_)
        · unfold aMv
          by_cases q : p = k
          · subst q
            split
            · rename_i z
              rw [← z]
              exact b2 p (by omega)
            · rename_i z
              rw [if_neg (fun y => z y.symm), if_pos rfl]
              exact b2 p (by omega)
          · have l1 := aTg_lt2 (p := k) (q := p) hn (by omega)
            have l2 := aTg_ge (p := p) hn
            split
            · exact b1 p (by omega) hpm
            · rw [if_neg (by omega), if_neg (by omega)]
              exact b1 p (by omega) hpm
        · unfold aMv
          split
          · exact b2 s (by omega)
          · rw [if_neg (by omega), if_neg (by omega)]
            exact b2 s (by omega)
        · unfold aMv
          have n1 := hs2 k (Nat.le_refl _) (by omega)
          by_cases q : s = k
          · subst q
            rw [if_neg (fun z => n1 z.symm), if_pos rfl]
          · have b4 : B s = eR := b3 s (by omega) (fun p hp hpm => hs2 p (by omega) hpm)
            split
            · exact b4
            · first | rw [if_neg q, if_neg (fun z => n1 z.symm)] | rw [if_neg (fun z => n1 z.symm)]
              exact b4
  refine loop m (Nat.le_refl _) _ M' h1 (fun p h1 h2 => by omega) (fun s hs => by rw [if_pos hs]) (fun s hs _ => by rw [if_neg (by omega)])
/-! ===== Memory.countSearch ===== -/
def aHt (A : aR) (r : Int32) : aR := fun s w => if w = 6 ∧ A s 0 = r ∧ A s 1 = 0 then A s 6 + nI 1 else A s w
def hitM (M : xM) (r : Int32) (i : Nat) : xM := fun k s => if k = 23 ∧ s < i ∧ M 17 s = r then M 23 s + nI 1 else M k s
theorem hitM_s {M : xM} {r : Int32} {i : Nat} (h : M 17 i = r) : xset (hitM M r i) 23 i (M 23 i + nI 1) = hitM M r (i + 1) := by
  funext k s
  rw [xset_at]
  unfold hitM
  by_cases q : k = 23
  · subst q
    by_cases q2 : s = i
    · subst q2
      simp [h]
    · have : s < i + 1 ↔ s < i := by omega
      simp [this, q2]
  · simp [q]
theorem hitM_f {M : xM} {r : Int32} {i : Nat} (h : M 17 i ≠ r) : hitM M r (i + 1) = hitM M r i := by
  funext k s
  unfold hitM
  by_cases q : s = i
  · subst q
    rw [if_neg (fun z => h z.2.2), if_neg (fun z => by omega)]
  · have : s < i + 1 ↔ s < i := by omega
    simp only [this]
theorem hitM_A {M : xM} {r : Int32} (hr : r ≠ -1) : cA (hitM M r 32) 16 = aHt (cA M 16) r := by
  funext s w
  rcases Nat.lt_or_ge s 32 with hs | hs
  · by_cases ho : M 17 s = -1
    · have e1 : hitM M r 32 17 s = -1 := by simp [hitM, ho]
      rw [cA_free (M := hitM M r 32) e1]
      unfold aHt
      rw [cA_free (M := M) ho, if_neg]
      rintro ⟨-, h, -⟩
      exact hr h.symm
    · have o1 : occ M 16 s = true := by simp [occ, hs, ho]
      have o2 : occ (hitM M r 32) 16 s = true := by simp [occ, hitM, hs, ho]
      unfold aHt cA
      rw [o1, o2]
      simp only [if_true, hitM]
      by_cases q : w = 6
      · subst q
        by_cases q1 : M 18 s = 0
        · by_cases q2 : M 17 s = r
          · simp [q1, q2, hs]
          · simp [q1, q2]
        · simp [q1]
      · by_cases q3 : w < 6
        · have : ¬ 17 + w = 23 := by omega
          simp [q, q3, this]
        · simp [q, q3]
  · have e0 := cA_ge (M := hitM M r 32) (b := 16) hs
    rw [e0]
    unfold aHt
    rw [cA_ge (M := M) hs, if_neg]
    rintro ⟨-, h, -⟩
    exact hr h.symm
theorem k_countSearch (U : xP) (M : xM) (x : Int32) {j : Nat} (hj : j < 32) (ho : aoc (cA M 16) j = true) : xMetV U mX1_countSearch [.inr 16, .inl x, .inl (nI j)] M (fun M' => mSt M M' (aHt (cA M 16) (cA M 16 j 0)) (upd (upd (M 16) 10 (M 16 10 + nI 1)) 11 (M 16 11 + nI (aPw (cA M 16) x 4)))) := by
  refine xMetV.of (L := [some (.inr 16), some (.inl x), some (.inl (nI j)), none, none]) fX1_countSearch rfl rfl (Nat.le_of_ble_eq_true rfl) (fun G hN hO hR => ?_)
  have hN : G.2.2.2.2.2.2.2.2.2.2.1 = 5 := hN
  have hO : xOK U G RX1 cX1_countSearch 5 := hO
  have e0 : M 17 j = cA M 16 j 0 := cA_in (w := 0) ho (by decide)
  have hr : cA M 16 j 0 ≠ -1 := by intro z; simp [aoc, z] at ho
  refine x_aload_n hO dX1_countSearch_0 rfl rfl ?_
  refine x_iload_n hO dX1_countSearch_1 rfl rfl ?_
  refine x_callV1 hO (k_holds M hj) dX1_countSearch_2 lkX1_53 fX1_holdsEntry vX1_holdsEntry (by decide) rfl rfl rfl rfl rfl (by decide) (Nat.le_of_ble_eq_true rfl) ?_
  rw [ho]
  refine x_if_ne (tgt := 9) hO dX1_countSearch_5 (by decide) (fun c => ?_) (fun c => ?_)
  · refine x_aload_n hO dX1_countSearch_9 rfl rfl ?_
    refine x_dup hO dX1_countSearch_10 ?_
    refine x_getI (T := TX1) (j := 10) hO dX1_countSearch_11 flX1_43 (by decide) rfl rfl (by decide) rfl rfl ?_
    refine x_iconst (v := nI 1) hO dX1_countSearch_14 rfl ?_
    refine x_iadd hO dX1_countSearch_15 ?_
    refine x_put (T := TX1) (j := 10) (ty := .int) hO dX1_countSearch_16 flX1_43 (by decide) rfl rfl (by decide) rfl rfl rfl (by decide +kernel) rfl rfl ?_
    have h1 := mSt.num (M := M) 10 (by decide) (M 16 10 + nI 1)
    generalize xset M 16 10 (M 16 10 + nI 1) = M1 at h1 ⊢
    have e11 : M1 16 11 = M 16 11 := by rw [h1.2.1]; rfl
    refine x_aload_n hO dX1_countSearch_19 rfl rfl ?_
    refine x_dup hO dX1_countSearch_20 ?_
    refine x_getI (T := TX1) (j := 11) hO dX1_countSearch_21 flX1_46 (by decide) rfl rfl (by decide) rfl rfl ?_
    refine x_aload_n hO dX1_countSearch_24 rfl rfl ?_
    refine x_iload_n hO dX1_countSearch_25 rfl rfl ?_
    refine x_callV1 hO (k_powerFor U M1 x) dX1_countSearch_26 lkX1_119 fX1_powerFor vX1_powerFor (by decide) rfl rfl rfl rfl rfl (by decide) (Nat.le_of_ble_eq_true rfl) ?_
    rw [h1.1, e11]
    refine x_iadd hO dX1_countSearch_29 ?_
    refine x_put (T := TX1) (j := 11) (ty := .int) hO dX1_countSearch_30 flX1_46 (by decide) rfl rfl (by decide) rfl rfl rfl (by decide +kernel) rfl rfl ?_
    have h2 := mSt.tr h1 (mSt.num (M := M1) 11 (by decide) (M 16 11 + nI (aPw (cA M 16) x 4)))
    rw [h1.1, h1.2.1] at h2
    generalize xset M1 16 11 (M 16 11 + nI (aPw (cA M 16) x 4)) = M2 at h2 ⊢
    have ej : M2 17 j = cA M 16 j 0 := by
      rw [← h2.1] at ho
      have := cA_in (M := M2) (b := 16) (w := 0) ho (by decide)
      rw [h2.1] at this
      exact this
    refine x_aload_n hO dX1_countSearch_33 rfl rfl ?_
    refine x_getR (T := TX1) (j := 0) hO dX1_countSearch_34 flX1_9 (by decide) rfl rfl (by decide) rfl rfl ?_
    refine x_iload_n hO dX1_countSearch_37 rfl rfl ?_
    refine x_iald hO (by decide) rfl (by decide) (rfl) (hj) dX1_countSearch_38 ?_
    refine x_istore_n (n := 5) hO dX1_countSearch_39 rfl rfl (by decide) hN ?_
    refine x_iconst (v := nI 0) hO dX1_countSearch_40 rfl ?_
    refine x_istore (n := 5) hO dX1_countSearch_41 rfl (by decide) hN ?_
    rw [ej]
    generalize cA M 16 j 0 = r at *
    have hz : hitM M2 r 0 = M2 := by funext k s; simp [hitM]
    have lp := upd_ind (P := fun i _ => XW U G 43 [some (.inr 16), some (.inl x), some (.inl (nI j)), some (.inl r), some (.inl (nI i))] [] (hitM M2 r i)) 32 ?_ ?_ 32 0 rfl
    · rw [hz] at lp
      exact lp
    · refine x_iload hO dX1_countSearch_43 rfl ?_
      refine x_bipush (v := nI 32) hO dX1_countSearch_45 rfl ?_
      refine x_icmp_ge (tgt := 78) hO dX1_countSearch_47 (by decide) (fun c1 => ?_) (fun c1 => ?_)
      · refine x_vret hO hR dX1_countSearch_78 ?_
        refine ⟨by rw [hitM_A hr, h2.1], ?_, fun k hk => ?_⟩
        · rw [← h2.2.1]
          funext a
          simp [hitM]
        · rw [← h2.2.2 k hk]
          funext a
          have : ¬ k = 23 := by omega
          simp [hitM, this]
      · exact absurd (Int32.le_refl _) c1
    · intro i d hd ih
      have hi : i < 32 := by omega
      have e17 : hitM M2 r i 17 i = M2 17 i := by simp [hitM]
      have e23 : hitM M2 r i 23 i = M2 23 i := by simp [hitM]
      refine x_iload hO dX1_countSearch_43 rfl ?_
      refine x_bipush (v := nI 32) hO dX1_countSearch_45 rfl ?_
      refine x_icmp_ge (tgt := 78) hO dX1_countSearch_47 (by decide) (fun c1 => ?_) (fun c1 => ?_)
      · exact absurd c1 (nI_ge hi (by decide))
      · refine x_aload_n hO dX1_countSearch_50 rfl rfl ?_
        refine x_getR (T := TX1) (j := 0) hO dX1_countSearch_51 flX1_9 (by decide) rfl rfl (by decide) rfl rfl ?_
        refine x_iload hO dX1_countSearch_54 rfl ?_
        refine x_iald hO (by decide) rfl (by decide) (rfl) (hi) dX1_countSearch_56 ?_
        refine x_iload_n hO dX1_countSearch_57 rfl rfl ?_
        rw [e17]
        refine x_icmp_ne (tgt := 72) hO dX1_countSearch_58 (by decide) (fun c2 => ?_) (fun c2 => ?_)
        · rw [hitM_f c2] at ih
          refine x_iinc hO dX1_countSearch_72 rfl (by first | exact xinc_n _ | rfl) rfl hN ?_
          refine x_goto (tgt := 43) hO dX1_countSearch_75 (by decide) ?_
          exact ih
        · refine x_aload_n hO dX1_countSearch_61 rfl rfl ?_
          refine x_getR (T := TX1) (j := 6) hO dX1_countSearch_62 flX1_30 (by decide) rfl rfl (by decide) rfl rfl ?_
          refine x_iload hO dX1_countSearch_65 rfl ?_
          refine x_dup2 hO dX1_countSearch_67 ?_
          refine x_iald hO (by decide) rfl (by decide) (rfl) (hi) dX1_countSearch_68 ?_
          rw [e23]
          refine x_iconst (v := nI 1) hO dX1_countSearch_69 rfl ?_
          refine x_iadd hO dX1_countSearch_70 ?_
          refine x_iast hO (by decide) rfl (by decide) (rfl) (hi) dX1_countSearch_71 ?_
          rw [hitM_s c2]
          refine x_iinc hO dX1_countSearch_72 rfl (by first | exact xinc_n _ | rfl) rfl hN ?_
          refine x_goto (tgt := 43) hO dX1_countSearch_75 (by decide) ?_
          exact ih
  · exact absurd c (by decide)
