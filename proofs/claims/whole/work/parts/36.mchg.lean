/-! ===== the reference's changes ===== -/
theorem km_addRule (U : xP) (M : xM) {s : aO} (h : RM M s) {B : Nat} (w : WfO s B) (hB : B < 900000) (v m k a : Int32) : xMetI U mX4_addRule [.inr 9, .inl v, .inl m, .inl k, .inl a] M (poM M (o_addRule s v m k a)) := by
  refine xMetI.of (ty := .int) (L := [some (.inr 9), some (.inl v), some (.inl m), some (.inl k), some (.inl a)]) fX4_addRule rfl rfl (Nat.le_of_ble_eq_true rfl) (fun G hN hO hR => ?_)
  have hN : G.2.2.2.2.2.2.2.2.2.2.1 = 5 := hN
  have hO : xOK U G RX4 cX4_addRule 5 := hO
  unfold o_addRule argB at hR
  have bad : (ixB v 256 && (ixB m 256 && (ixB k 100 && ixB a 10))) = false → XW U G 23 [some (.inr 9), some (.inl v), some (.inl m), some (.inl k), some (.inl a)] [] M := by
    intro hb
    rw [hb] at hR
    refine x_bipush (v := (-2 : Int32)) hO dX4_addRule_23 rfl ?_
    refine x_iret hO hR dX4_addRule_25 rfl ?_
    exact ⟨rfl, h, frM.rf M⟩
  refine x_iload_n hO dX4_addRule_0 rfl rfl ?_
  refine x_callS1 hO (m_isByte U M v) dX4_addRule_1 lkX4_79 fX4_isByte sX4_isByte rfl rfl (by decide) (Nat.le_of_ble_eq_true rfl) ?_
  refine x_if_eq (tgt := 23) hO dX4_addRule_4 (by decide) (fun c1 => ?_) (fun c1 => ?_)
  · exact bad (by simp [bI_0 c1])
  · refine x_iload_n hO dX4_addRule_7 rfl rfl ?_
    refine x_callS1 hO (m_isByte U M m) dX4_addRule_8 lkX4_79 fX4_isByte sX4_isByte rfl rfl (by decide) (Nat.le_of_ble_eq_true rfl) ?_
    refine x_if_eq (tgt := 23) hO dX4_addRule_11 (by decide) (fun c2 => ?_) (fun c2 => ?_)
    · exact bad (by simp [bI_0 c2])
    · refine x_iload_n hO dX4_addRule_14 rfl rfl ?_
      refine x_iload hO dX4_addRule_15 rfl ?_
      refine x_callS1 hO (m_isRA U M k a) dX4_addRule_17 lkX4_89 fX4_isRankAndAction sX4_isRankAndAction rfl rfl (by decide) (Nat.le_of_ble_eq_true rfl) ?_
      refine x_if_ne (tgt := 26) hO dX4_addRule_20 (by decide) (fun c3 => ?_) (fun c3 => ?_)
      · have c3 := bI_1 c3
        rw [bI_1 c1, bI_1 c2, c3] at hR
        simp only [Bool.and_self, if_true] at hR
        refine x_aload_n hO dX4_addRule_26 rfl rfl ?_
        refine x_callV1 hO (m_freeSlots U M) dX4_addRule_27 lkX4_93 fX4_freeSlots vX4_freeSlots (by decide) rfl rfl rfl rfl rfl (by decide) (Nat.le_of_ble_eq_true rfl) ?_
        have hle := aCnt_le s.1.1
        rw [h.rows]
        obtain ⟨⟨a0, l0, e0, wA⟩, -, -⟩ := w
        refine x_if_ne (tgt := 36) hO dX4_addRule_30 (by decide) (fun c5 => ?_) (fun c5 => ?_)
        · have q : ¬ aCnt s.1.1 = 32 := fun z => c5 (by rw [z]; rfl)
          rw [if_neg q] at hR
          refine x_aload_n hO dX4_addRule_36 rfl rfl ?_
          refine x_callVv hO (m_record U M h) dX4_addRule_37 lkX4_48 fX4_record vX4_record (by decide) rfl rfl rfl rfl rfl (by decide) (Nat.le_of_ble_eq_true rfl) (fun M1 m1 => ?_)
          obtain ⟨r1, f1, -⟩ := m1
          have eA : nA M1 = s.1.1 := r1.rows
          have eG : nG M1 = s.1.2 := r1.nums
          refine x_aload_n hO dX4_addRule_40 rfl rfl ?_
          refine x_iload_n hO dX4_addRule_41 rfl rfl ?_
          refine x_iload_n hO dX4_addRule_42 rfl rfl ?_
          refine x_iload_n hO dX4_addRule_43 rfl rfl ?_
          refine x_iload hO dX4_addRule_44 rfl ?_
          refine x_callV hO (m_add U M1 v m k a (by rw [eA]; omega) (by rw [eA]; exact wA.1) (by rw [eG, e0]; exact nI_m1 (by omega))) dX4_addRule_46 lkX4_96 fX4_add vX4_add (by decide) rfl rfl rfl rfl rfl (by decide) (Nat.le_of_ble_eq_true rfl) (fun r M2 m2 => ?_)
          obtain ⟨rfl, m2⟩ := m2
          rw [eA, eG] at m2
          obtain ⟨r2, f2⟩ := r1.mSm m2 (upd_z (upd_z h.z (by decide) _) (by decide) _)
          refine x_iret hO hR dX4_addRule_49 rfl ?_
          exact ⟨by rw [eG], r2, f1.tr f2⟩
        · have q : aCnt s.1.1 = 32 := by have := (nI_eq (b := 0) (by omega) (by decide)).mp c5; omega
          rw [if_pos q] at hR
          refine x_bipush (v := (-3 : Int32)) hO dX4_addRule_33 rfl ?_
          refine x_iret hO hR dX4_addRule_35 rfl ?_
          exact ⟨rfl, h, frM.rf M⟩
      · exact bad (by rw [show (ixB k 100 && ixB a 10) = false from bI_0 c3]; simp)
theorem m_block (U : xP) (M : xM) {f h : Nat} (hf : f < 512) (hh : h < 256) : xMetI U mX4_block [.inl (nI f), .inl (nI h)] M (fun r M' => r = nI (bS f h) ∧ M' = M) := by
  refine xMetI.of (ty := .int) (L := [some (.inl (nI f)), some (.inl (nI h)), none]) fX4_block rfl rfl (Nat.le_of_ble_eq_true rfl) (fun G hN hO hR => ?_)
  have hN : G.2.2.2.2.2.2.2.2.2.2.1 = 3 := hN
  have hO : xOK U G RX4 cX4_block 0 := hO
  generalize hg : bS f h = g at hR
  refine x_iconst (v := nI 1) hO dX4_block_0 rfl ?_
  refine x_istore_n (n := 3) hO dX4_block_1 rfl rfl (by decide) hN ?_
  refine upd_ind (P := fun k d => bsz f h (2 ^ k) d = g → XW U G 2 [some (.inl (nI f)), some (.inl (nI h)), some (.inl (nI (2 ^ k)))] [] M) 8 ?_ ?_ 8 0 rfl hg
  · intro hg
    refine x_iload_n hO dX4_block_2 rfl rfl ?_
    refine x_sipush (v := nI 256) hO dX4_block_3 rfl ?_
    refine x_icmp_ge (tgt := 35) hO dX4_block_6 (by decide) (fun c => ?_) (fun c => ?_)
    · refine x_iload_n hO dX4_block_35 rfl rfl ?_
      refine x_iret hO hR dX4_block_36 rfl ?_
      exact ⟨by rw [← hg]; rfl, rfl⟩
    · exact absurd (by decide) c
  · intro k d hd ih hg
    have hk0 : 0 < 2 ^ k := Nat.pow_pos (by decide)
    have hk2 : 2 ^ (k + 1) = 2 * 2 ^ k := by rw [Nat.pow_succ, Nat.mul_comm]
    have hk8 : 2 ^ (k + 1) ≤ 256 := by have := Nat.pow_le_pow_right (n := 2) (by decide) (show k + 1 ≤ 8 by omega); omega
    simp only [bsz] at hg
    refine x_iload_n hO dX4_block_2 rfl rfl ?_
    refine x_sipush (v := nI 256) hO dX4_block_3 rfl ?_
    refine x_icmp_ge (tgt := 35) hO dX4_block_6 (by decide) (fun c => ?_) (fun c => ?_)
    · exact absurd c (nI_ge (by omega) (by decide))
    · refine x_iload_n hO dX4_block_9 rfl rfl ?_
      refine x_iconst (v := nI 2) hO dX4_block_10 rfl ?_
      refine x_iload_n hO dX4_block_11 rfl rfl ?_
      refine x_imul hO dX4_block_12 ?_
      rw [pk_mul]
      have n0 : ¬ nI (2 * 2 ^ k) = 0 := fun z => by have := (nI_eq (b := 0) (by omega) (by decide)).mp z; omega
      refine x_irem hO dX4_block_13 (n0) ?_
      rw [pk_rem (by omega) (by omega) (by omega)]
      have em : f % (2 * 2 ^ k) < 512 := by have := Nat.mod_lt f (show 0 < 2 * 2 ^ k by omega); omega
      have stop : ¬ (f % (2 * 2 ^ k) = 0 ∧ f + 2 * 2 ^ k - 1 ≤ h) → XW U G 35 [some (.inl (nI f)), some (.inl (nI h)), some (.inl (nI (2 ^ k)))] [] M := by
        intro z
        rw [if_neg z] at hg
        refine x_iload_n hO dX4_block_35 rfl rfl ?_
        refine x_iret hO hR dX4_block_36 rfl ?_
        exact ⟨by rw [← hg], rfl⟩
      refine x_if_ne (tgt := 35) hO dX4_block_14 (by decide) (fun c2 => ?_) (fun c2 => ?_)
      · exact stop (fun z => c2 (by rw [z.1]; rfl))
      · have q : f % (2 * 2 ^ k) = 0 := (nI_eq (b := 0) (by omega) (by decide)).mp c2
        refine x_iload_n hO dX4_block_17 rfl rfl ?_
        refine x_iconst (v := nI 2) hO dX4_block_18 rfl ?_
        refine x_iload_n hO dX4_block_19 rfl rfl ?_
        refine x_imul hO dX4_block_20 ?_
        rw [pk_mul]
        refine x_iadd hO dX4_block_21 ?_
        rw [nI_add]
        refine x_iconst (v := nI 1) hO dX4_block_22 rfl ?_
        refine x_isub hO dX4_block_23 ?_
        rw [pk_sub (by omega)]
        refine x_iload_n hO dX4_block_24 rfl rfl ?_
        refine x_icmp_gt (tgt := 35) hO dX4_block_25 (by decide) (fun c3 => ?_) (fun c3 => ?_)
        · exact stop (fun z => by have := (nI_ltI (by omega) (by omega)).mp c3; omega)
        · have q3 : f + 2 * 2 ^ k - 1 ≤ h := Nat.not_lt.mp (fun z => c3 ((nI_ltI (by omega) (by omega)).mpr z))
          rw [if_pos ⟨q, q3⟩] at hg
          refine x_iload_n hO dX4_block_28 rfl rfl ?_
          refine x_iconst (v := nI 2) hO dX4_block_29 rfl ?_
          refine x_imul hO dX4_block_30 ?_
          rw [pk_mul, Nat.mul_comm]
          refine x_istore_n (n := 3) hO dX4_block_31 rfl rfl (by decide) hN ?_
          refine x_goto (tgt := 2) hO dX4_block_32 (by decide) ?_
          rw [hk2] at ih
          exact ih hg
theorem m_blocks (U : xP) (M : xM) {f h : Nat} (hf : f < 256) (hh : h < 256) (hfh : f ≤ h) : xMetI U mX4_blocks [.inl (nI f), .inl (nI h)] M (fun r M' => r = nI (bCn h f 14) ∧ M' = M) := by
  refine xMetI.of (ty := .int) (L := [some (.inl (nI f)), some (.inl (nI h)), none, none]) fX4_blocks rfl rfl (Nat.le_of_ble_eq_true rfl) (fun G hN hO hR => ?_)
  have hN : G.2.2.2.2.2.2.2.2.2.2.1 = 4 := hN
  have hO : xOK U G RX4 cX4_blocks 1 := hO
  generalize hg : bCn h f 14 = g at hR
  refine x_iconst (v := nI 0) hO dX4_blocks_0 rfl ?_
  refine x_istore_n (n := 4) hO dX4_blocks_1 rfl rfl (by decide) hN ?_
  refine x_iload_n hO dX4_blocks_2 rfl rfl ?_
  refine x_istore_n (n := 4) hO dX4_blocks_3 rfl rfl (by decide) hN ?_
  have loop : ∀ d f1 n, f1 ≤ 256 → h < bPos h f1 d → n + bCn h f1 d = g → XW U G 4 [some (.inl (nI f)), some (.inl (nI h)), some (.inl (nI n)), some (.inl (nI f1))] [] M := by
    intro d
    induction d with
    | zero =>
      intro f1 n hf1 hp hn
      have hp : h < f1 := hp
      refine x_iload_n hO dX4_blocks_4 rfl rfl ?_
      refine x_iload_n hO dX4_blocks_5 rfl rfl ?_
      refine x_icmp_gt (tgt := 23) hO dX4_blocks_6 (by decide) (fun c => ?_) (fun c => ?_)
      · refine x_iload_n hO dX4_blocks_23 rfl rfl ?_
        refine x_iret hO hR dX4_blocks_24 rfl ?_
        exact ⟨by rw [← hn]; rfl, rfl⟩
      · exact absurd (nI_lt hp (by omega)) c
    | succ d ih =>
      intro f1 n hf1 hp hn
      simp only [bCn] at hn
      simp only [bPos] at hp
      refine x_iload_n hO dX4_blocks_4 rfl rfl ?_
      refine x_iload_n hO dX4_blocks_5 rfl rfl ?_
      refine x_icmp_gt (tgt := 23) hO dX4_blocks_6 (by decide) (fun c => ?_) (fun c => ?_)
      · have q : h < f1 := (nI_ltI (by omega) (by omega)).mp c
        rw [if_pos q] at hn
        refine x_iload_n hO dX4_blocks_23 rfl rfl ?_
        refine x_iret hO hR dX4_blocks_24 rfl ?_
        exact ⟨by rw [← hn]; rfl, rfl⟩
      · have q : ¬ h < f1 := fun z => c (nI_lt z (by omega))
        have q2 := bS_fit (f := f1) (h := h) (by omega)
        rw [if_neg q] at hn hp
        refine x_iinc hO dX4_blocks_9 rfl (by first | exact xinc_n _ | rfl) rfl hN ?_
        refine x_iload_n hO dX4_blocks_12 rfl rfl ?_
        refine x_iload_n hO dX4_blocks_13 rfl rfl ?_
        refine x_iload_n hO dX4_blocks_14 rfl rfl ?_
        refine x_callS1 hO (m_block U M (f := f1) (h := h) (by omega) hh) dX4_blocks_15 lkX4_100 fX4_block sX4_block rfl rfl (by decide) (Nat.le_of_ble_eq_true rfl) ?_
        refine x_iadd hO dX4_blocks_18 ?_
        rw [nI_add]
        refine x_istore_n (n := 4) hO dX4_blocks_19 rfl rfl (by decide) hN ?_
        refine x_goto (tgt := 4) hO dX4_blocks_20 (by decide) ?_
        exact ih _ _ (by omega) hp (by omega)
  exact loop 14 f 0 (by omega) (bPos_14 hh (by omega)) (by omega)
theorem blk_step {P k a : Int32} {a0 h part f : Nat} {A : aR} (hh : h < 256) (ha : a0 < 1000000) (hp : part ≤ 1000) (hf : f ≤ h) (hlt : aCnt A < 32) (w : wfA A (a0 + 1)) (h1 : ∀ s, aoc A s = true → A s 0 = nI a0 → ∃ j, j < part ∧ A s 1 = nI j) (h2 : part = 0 ∨ ∃ t, aoc A t = true ∧ A t 0 = nI a0 ∧ A t 1 = 0) : wfA (aAdd A P k (rowOf (nI a0) (nI part) (nI (256 - bS f h)) (nI f) k a)) (a0 + 1) ∧ aCnt (aAdd A P k (rowOf (nI a0) (nI part) (nI (256 - bS f h)) (nI f) k a)) = aCnt A + 1 ∧ (∀ s, aoc (aAdd A P k (rowOf (nI a0) (nI part) (nI (256 - bS f h)) (nI f) k a)) s = true → aAdd A P k (rowOf (nI a0) (nI part) (nI (256 - bS f h)) (nI f) k a) s 0 = nI a0 → ∃ j, j < part + 1 ∧ aAdd A P k (rowOf (nI a0) (nI part) (nI (256 - bS f h)) (nI f) k a) s 1 = nI j) ∧ ∃ t, aoc (aAdd A P k (rowOf (nI a0) (nI part) (nI (256 - bS f h)) (nI f) k a)) t = true ∧ aAdd A P k (rowOf (nI a0) (nI part) (nI (256 - bS f h)) (nI f) k a) t 0 = nI a0 ∧ aAdd A P k (rowOf (nI a0) (nI part) (nI (256 - bS f h)) (nI f) k a) t 1 = 0 := by
  have hbl := bS_le f h
  have hfit := bS_fit hf
  have hrn : rowOf (nI a0) (nI part) (nI (256 - bS f h)) (nI f) k a 0 ≠ -1 := nI_m1 (by omega)
  have hcn := aCnt_add P k hlt hrn
  obtain ⟨src, c1, c2, c3, c4, c5, c6⟩ := aAdd_src P k (rowOf (nI a0) (nI part) (nI (256 - bS f h)) (nI f) k a) hlt (srt_pb w.1 w.ge k)
  have w2 : wfA (aAdd A P k (rowOf (nI a0) (nI part) (nI (256 - bS f h)) (nI f) k a)) (a0 + 1) := by
    refine w.ins P k hlt (r := a0) (by omega) (by omega) rfl rfl (m := 256 - bS f h) (v := f) (by omega) (by omega) rfl ?_ (bS_and2 hf hh) (fun s hs z => ?_) ?_
    · exact bS_and hf hh
    · obtain ⟨j, j1, j2⟩ := h1 s hs z.1
      have z1 : A s 1 = nI part := z.2
      rw [j2] at z1
      have := (nI_eq (by omega) (by omega)).mp z1
      omega
    · rcases h2 with z | z
      · subst z
        exact Or.inl rfl
      · exact Or.inr z
  have hrow : aAdd A P k (rowOf (nI a0) (nI part) (nI (256 - bS f h)) (nI f) k a) (oS A P k) = rowOf (nI a0) (nI part) (nI (256 - bS f h)) (nI f) k a := by unfold aAdd; rw [if_pos rfl]
  generalize hA2 : aAdd A P k (rowOf (nI a0) (nI part) (nI (256 - bS f h)) (nI f) k a) = A2 at *
  refine ⟨w2, hcn, fun s hs z => ?_, ?_⟩
  · by_cases y : s = oS A P k
    · subst y
      rw [hrow]
      exact ⟨part, by omega, rfl⟩
    · have o2 : aoc A (src s) = true := by unfold aoc at hs ⊢; rw [c1 s y] at hs; exact hs
      rw [c1 s y] at z ⊢
      obtain ⟨j, j1, j2⟩ := h1 _ o2 z
      exact ⟨j, by omega, j2⟩
  · rcases h2 with z | ⟨t, t1, t2, t3⟩
    · subst z
      refine ⟨oS A P k, ?_, by rw [hrow]; rfl, by rw [hrow]; rfl⟩
      unfold aoc
      rw [hrow]
      simpa using hrn
    · obtain ⟨s2, -, n2, e2⟩ := c6 t t1 (w.lt t1)
      refine ⟨s2, ?_, by rw [c1 s2 n2, e2]; exact t2, by rw [c1 s2 n2, e2]; exact t3⟩
      unfold aoc
      rw [c1 s2 n2, e2]
      exact t1
theorem km_addRange (U : xP) (M : xM) {s : aO} (h : RM M s) {B : Nat} (w : WfO s B) (hB : B < 900000) (x y k a : Int32) : xMetI U mX4_addRange [.inr 9, .inl x, .inl y, .inl k, .inl a] M (poM M (o_addRange s x y k a)) := by
  refine xMetI.of (ty := .int) (L := [some (.inr 9), some (.inl x), some (.inl y), some (.inl k), some (.inl a), none, none, none]) fX4_addRange rfl rfl (Nat.le_of_ble_eq_true rfl) (fun G hN hO hR => ?_)
  have hN : G.2.2.2.2.2.2.2.2.2.2.1 = 8 := hN
  have hO : xOK U G RX4 cX4_addRange 4 := hO
  unfold o_addRange at hR
  have bad : (rgB x y && (ixB k 100 && ixB a 10)) = false → XW U G 17 [some (.inr 9), some (.inl x), some (.inl y), some (.inl k), some (.inl a), none, none, none] [] M := by
    intro hb
    rw [hb] at hR
    refine x_bipush (v := (-2 : Int32)) hO dX4_addRange_17 rfl ?_
    refine x_iret hO hR dX4_addRange_19 rfl ?_
    exact ⟨rfl, h, frM.rf M⟩
  refine x_iload_n hO dX4_addRange_0 rfl rfl ?_
  refine x_iload_n hO dX4_addRange_1 rfl rfl ?_
  refine x_callS1 hO (m_isRange U M x y) dX4_addRange_2 lkX4_103 fX4_isRange sX4_isRange rfl rfl (by decide) (Nat.le_of_ble_eq_true rfl) ?_
  refine x_if_eq (tgt := 17) hO dX4_addRange_5 (by decide) (fun c1 => ?_) (fun c1 => ?_)
  · exact bad (by simp [bI_0 c1])
  · refine x_iload_n hO dX4_addRange_8 rfl rfl ?_
    refine x_iload hO dX4_addRange_9 rfl ?_
    refine x_callS1 hO (m_isRA U M k a) dX4_addRange_11 lkX4_89 fX4_isRankAndAction sX4_isRankAndAction rfl rfl (by decide) (Nat.le_of_ble_eq_true rfl) ?_
    refine x_if_ne (tgt := 20) hO dX4_addRange_14 (by decide) (fun c3 => ?_) (fun c3 => ?_)
    · have c3 := bI_1 c3
      rw [bI_1 c1, c3] at hR
      simp only [Bool.and_self, if_true] at hR
      obtain ⟨ex, ey, lx, ly, lxy⟩ := rgB_c (bI_1 c1)
      generalize x.toNatClampNeg = f at *
      generalize y.toNatClampNeg = g at *
      subst ex
      subst ey
      have hle := aCnt_le s.1.1
      obtain ⟨⟨a0, l0, e0, wA⟩, -, -⟩ := w
      refine x_aload_n hO dX4_addRange_20 rfl rfl ?_
      refine x_callV1 hO (m_freeSlots U M) dX4_addRange_21 lkX4_93 fX4_freeSlots vX4_freeSlots (by decide) rfl rfl rfl rfl rfl (by decide) (Nat.le_of_ble_eq_true rfl) ?_
      rw [h.rows]
      refine x_iload_n hO dX4_addRange_24 rfl rfl ?_
      refine x_iload_n hO dX4_addRange_25 rfl rfl ?_
      refine x_callS1 hO (m_blocks U M lx ly lxy) dX4_addRange_26 lkX4_106 fX4_blocks sX4_blocks rfl rfl (by decide) (Nat.le_of_ble_eq_true rfl) ?_
      have hb14 : bCn g f 14 ≤ 14 := by
        have : ∀ (d f : Nat), bCn g f d ≤ d := by
          intro d
          induction d with
          | zero => intro f; exact Nat.le_refl _
          | succ d ih =>
            intro f
            simp only [bCn]
            split
            · omega
            · have := ih (f + bS f g); omega
        exact this 14 f
      refine x_icmp_ge (tgt := 35) hO dX4_addRange_29 (by decide) (fun c5 => ?_) (fun c5 => ?_)
      · have q : ¬ 32 - aCnt s.1.1 < bCn g f 14 := by have := (nI_leI (by omega) (by omega)).mp c5; omega
        rw [if_neg q] at hR
        refine x_aload_n hO dX4_addRange_35 rfl rfl ?_
        refine x_callVv hO (m_record U M h) dX4_addRange_36 lkX4_48 fX4_record vX4_record (by decide) rfl rfl rfl rfl rfl (by decide) (Nat.le_of_ble_eq_true rfl) (fun M1 m1 => ?_)
        obtain ⟨r1, fr1, -⟩ := m1
        have eA : nA M1 = s.1.1 := r1.rows
        have eG : nG M1 = s.1.2 := r1.nums
        have g1 : M1 10 225 = nI a0 := by rw [← e0, ← eG]; exact (nG_at M1 (j := 1) (by decide)).symm
        have l225 : 225 < 229 := by decide
        refine x_aload_n hO dX4_addRange_39 rfl rfl ?_
        refine x_getR (T := TX4) (j := 0) hO dX4_addRange_40 flX4_7 (by decide) rfl rfl (by decide) rfl rfl ?_
        refine x_sipush (v := nI 225) hO dX4_addRange_43 rfl ?_
        refine x_iald hO (by decide) rfl (by decide) (rfl) (l225) dX4_addRange_46 ?_
        rw [g1]
        refine x_istore (n := 8) hO dX4_addRange_47 rfl (by decide) hN ?_
        refine x_iconst (v := nI 0) hO dX4_addRange_49 rfl ?_
        refine x_istore (n := 8) hO dX4_addRange_50 rfl (by decide) hN ?_
        refine x_iload_n hO dX4_addRange_52 rfl rfl ?_
        refine x_istore (n := 8) hO dX4_addRange_53 rfl (by decide) hN ?_
        have wA1 := wA.up (Nat.le_succ a0)
        have loop : ∀ d part f1 (A1 : aR) (mv : Int32) (M2 : xM), part + d ≤ 1000 → f1 ≤ g + 1 → g < bPos g f1 d → aCnt A1 + bCn g f1 d ≤ 32 → wfA A1 (a0 + 1) → (∀ s, aoc A1 s = true → A1 s 0 = nI a0 → ∃ j, j < part ∧ A1 s 1 = nI j) → (part = 0 ∨ ∃ t, aoc A1 t = true ∧ A1 t 0 = nI a0 ∧ A1 t 1 = 0) → mSm M1 M2 A1 (upd s.1.2 2 mv) → aBlk (s.1.2 0) k a (nI a0) g d part f1 (A1, mv) = aBlk (s.1.2 0) k a (nI a0) g 14 0 f (s.1.1, s.1.2 2) → XW U G 55 [some (.inr 9), some (.inl (nI f)), some (.inl (nI g)), some (.inl k), some (.inl a), some (.inl (nI a0)), some (.inl (nI part)), some (.inl (nI f1))] [] M2 := by
          have fin : ∀ part f1 (A1 : aR) (mv : Int32) (M2 : xM), mSm M1 M2 A1 (upd s.1.2 2 mv) → (A1, mv) = aBlk (s.1.2 0) k a (nI a0) g 14 0 f (s.1.1, s.1.2 2) → XW U G 106 [some (.inr 9), some (.inl (nI f)), some (.inl (nI g)), some (.inl k), some (.inl a), some (.inl (nI a0)), some (.inl (nI part)), some (.inl (nI f1))] [] M2 := by
            intro part f1 A1 mv M2 m2 he
            have g1 : M2 10 225 = nI a0 := by rw [← e0]; exact m2.2.1 1 (by decide)
            refine x_aload_n hO dX4_addRange_106 rfl rfl ?_
            refine x_getR (T := TX4) (j := 0) hO dX4_addRange_107 flX4_7 (by decide) rfl rfl (by decide) rfl rfl ?_
            refine x_sipush (v := nI 225) hO dX4_addRange_110 rfl ?_
            refine x_dup2 hO dX4_addRange_113 ?_
            refine x_iald hO (by decide) rfl (by decide) (rfl) (l225) dX4_addRange_114 ?_
            rw [g1]
            refine x_iconst (v := nI 1) hO dX4_addRange_115 rfl ?_
            refine x_iadd hO dX4_addRange_116 ?_
            refine x_iast hO (by decide) rfl (by decide) (rfl) (l225) dX4_addRange_117 ?_
            refine x_iload hO dX4_addRange_118 rfl ?_
            refine x_iret hO hR dX4_addRange_120 rfl ?_
            have m3 := m2.tr (mSm.num (M := M2) (j := 1) (by decide) (nI a0 + nI 1))
            rw [m2.1] at m3
            have m4 : mSm M1 (xset M2 10 225 (nI a0 + nI 1)) A1 (upd (upd s.1.2 1 (nI a0 + nI 1)) 2 mv) := m3.gc (fun j hj => by
              rw [upd_at, m2.g hj]
              simp only [upd_at]
              by_cases y1 : j = 1
              · subst y1
                simp
              · by_cases y2 : j = 2
                · subst y2
                  simp
                · simp [y1, y2])
            obtain ⟨r4, f4⟩ := r1.mSm m4 (upd_z (upd_z h.z (by decide) _) (by decide) _)
            refine ⟨e0.symm, ?_, fr1.tr f4⟩
            have e : blkS s.1 f g k a = (A1, upd (upd s.1.2 1 (nI a0 + nI 1)) 2 mv) := by
              unfold blkS
              rw [e0, ← he]
            rw [e]
            exact r4
          intro d
          induction d with
          | zero =>
            intro part f1 A1 mv M2 hp hf hps hcn wA2 hn1 hn2 m2 he
            have hps : g < f1 := hps
            refine x_iload hO dX4_addRange_55 rfl ?_
            refine x_iload_n hO dX4_addRange_57 rfl rfl ?_
            refine x_icmp_gt (tgt := 106) hO dX4_addRange_58 (by decide) (fun c6 => ?_) (fun c6 => ?_)
            · exact fin part f1 A1 mv M2 m2 he
            · exact absurd (nI_lt hps (by omega)) c6
          | succ d ih =>
            intro part f1 A1 mv M2 hp hf hps hcn wA2 hn1 hn2 m2 he
            simp only [aBlk] at he
            simp only [bPos] at hps
            simp only [bCn] at hcn
            refine x_iload hO dX4_addRange_55 rfl ?_
            refine x_iload_n hO dX4_addRange_57 rfl rfl ?_
            refine x_icmp_gt (tgt := 106) hO dX4_addRange_58 (by decide) (fun c6 => ?_) (fun c6 => ?_)
            · have q6 : g < f1 := (nI_ltI (by omega) (by omega)).mp c6
              rw [if_pos q6] at he
              exact fin part f1 A1 mv M2 m2 he
            · have q6 : ¬ g < f1 := fun z => c6 (nI_lt z (by omega))
              rw [if_neg q6] at he hps hcn
              have hbl := bS_le f1 g
              have hfit := bS_fit (f := f1) (h := g) (by omega)
              have eA2 : nA M2 = A1 := m2.1
              have e20 : nG M2 0 = s.1.2 0 := m2.g (by decide)
              have e22 : nG M2 2 = mv := m2.g (by decide)
              refine x_aload_n hO dX4_addRange_61 rfl rfl ?_
              refine x_aload_n hO dX4_addRange_62 rfl rfl ?_
              refine x_iload_n hO dX4_addRange_63 rfl rfl ?_
              refine x_callV hO (m_makeRoom U M2 k (by rw [eA2]; omega) (by rw [eA2]; exact wA2.1)) dX4_addRange_64 lkX4_82 fX4_makeRoom vX4_makeRoom (by decide) rfl rfl rfl rfl rfl (by decide) (Nat.le_of_ble_eq_true rfl) (fun r M3 m3 => ?_)
              obtain ⟨rfl, B3, m3, mb⟩ := m3
              rw [eA2, e20] at mb ⊢
              rw [eA2, e22] at m3
              refine x_iload hO dX4_addRange_67 rfl ?_
              refine x_iload hO dX4_addRange_69 rfl ?_
              refine x_sipush (v := nI 256) hO dX4_addRange_71 rfl ?_
              refine x_iload hO dX4_addRange_74 rfl ?_
              refine x_iload_n hO dX4_addRange_76 rfl rfl ?_
              refine x_callS1 hO (m_block U M3 (f := f1) (h := g) (by omega) ly) dX4_addRange_77 lkX4_100 fX4_block sX4_block rfl rfl (by decide) (Nat.le_of_ble_eq_true rfl) ?_
              refine x_isub hO dX4_addRange_80 ?_
              rw [pk_sub (by omega)]
              refine x_iload hO dX4_addRange_81 rfl ?_
              refine x_iload_n hO dX4_addRange_83 rfl rfl ?_
              refine x_iload hO dX4_addRange_84 rfl ?_
              refine x_callVv hO (m_put U M3 (j := oS A1 (s.1.2 0) k) (oS_lt _ _ (by omega)) (nI a0) (nI part) (nI (256 - bS f1 g)) (nI f1) k a (nI f1) (nI_m1 (by omega)) (bS_and (by omega) ly).symm) dX4_addRange_86 lkX4_85 fX4_put vX4_put (by decide) rfl rfl rfl rfl rfl (by decide) (Nat.le_of_ble_eq_true rfl) (fun M4 m4 => ?_)
              have eR2 : (fun s_1 => if s_1 = oS A1 (s.1.2 0) k then rowOf (nI a0) (nI part) (nI (256 - bS f1 g)) (nI f1) k a else nA M3 s_1) = aAdd A1 (s.1.2 0) k (rowOf (nI a0) (nI part) (nI (256 - bS f1 g)) (nI f1) k a) := by
                funext z
                unfold aAdd
                by_cases y : z = oS A1 (s.1.2 0) k
                · rw [if_pos y, if_pos y]
                · rw [if_neg y, if_neg y, m3.1, mb z y]
              rw [eR2] at m4
              obtain ⟨n1, n2, n3, n4⟩ := blk_step (P := s.1.2 0) (k := k) (a := a) (part := part) (f := f1) ly (by omega) (by omega) (by omega) (by omega) wA2 hn1 hn2
              have m5 : mSm M1 M4 (aAdd A1 (s.1.2 0) k (rowOf (nI a0) (nI part) (nI (256 - bS f1 g)) (nI f1) k a)) (upd s.1.2 2 (mv + nI (oM A1 k))) := (m2.tr (m3.tr m4)).gc (fun j hj => by
                rw [m3.g hj]
                simp only [upd_at]
                split
                · rfl
                · rename_i y
                  rw [m2.g hj, upd_at, if_neg y])
              refine x_iinc hO dX4_addRange_89 rfl (by first | exact xinc_n _ | rfl) rfl hN ?_
              refine x_iload hO dX4_addRange_92 rfl ?_
              refine x_iload hO dX4_addRange_94 rfl ?_
              refine x_iload_n hO dX4_addRange_96 rfl rfl ?_
              refine x_callS1 hO (m_block U M4 (f := f1) (h := g) (by omega) ly) dX4_addRange_97 lkX4_100 fX4_block sX4_block rfl rfl (by decide) (Nat.le_of_ble_eq_true rfl) ?_
              refine x_iadd hO dX4_addRange_100 ?_
              rw [nI_add]
              refine x_istore (n := 8) hO dX4_addRange_101 rfl (by decide) hN ?_
              refine x_goto (tgt := 55) hO dX4_addRange_103 (by decide) ?_
              exact ih (part + 1) (f1 + bS f1 g) _ _ M4 (by omega) (by omega) hps (by omega) n1 n3 (Or.inr n4) m5 he
        refine loop 14 0 f s.1.1 (s.1.2 2) M1 (by omega) (by omega) (bPos_14 ly (by omega)) (by omega) wA1 (fun z hz e => ?_) (Or.inl rfl) ?_ rfl
        · obtain ⟨⟨r, q1, q2⟩, -⟩ := wA.2.2.2.1 z hz
          rw [q2] at e
          have := (nI_eq (by omega) (by omega)).mp e
          omega
        · have := mSm.rf M1
          rw [eA, eG] at this
          exact this.gc (fun j hj => by
            rw [upd_at]
            split
            · rename_i y
              rw [y]
            · rfl)
      · have q : 32 - aCnt s.1.1 < bCn g f 14 := Nat.not_le.mp (fun z => c5 ((nI_leI (by omega) (by omega)).mpr z))
        rw [if_pos q] at hR
        refine x_bipush (v := (-3 : Int32)) hO dX4_addRange_32 rfl ?_
        refine x_iret hO hR dX4_addRange_34 rfl ?_
        exact ⟨rfl, h, frM.rf M⟩
    · exact bad (by rw [show (ixB k 100 && ixB a 10) = false from bI_0 c3]; simp)
