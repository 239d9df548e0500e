/-! ===== the reference's cells, as the document's state ===== -/
def smC (M : xM) (c o : Nat) : aSt := (mA M c o, fun j => if j < 5 then M c (o + 224 + j) else 0)
theorem smC_now (M : xM) : smC M 10 0 = (nA M, nG M) := rfl
theorem smC_eq {M M' : xM} {c c' o o' : Nat} (h : ∀ t, t < 229 → M' c' (o' + t) = M c (o + t)) : smC M' c' o' = smC M c o := by
  unfold smC
  congr 1
  · refine mA_ext (fun s hs => mA_row hs hs (fun w hw => ?_)) (fun s hs => mA_ge hs)
    have := h (7 * s + w) (by omega)
    rw [show o' + 7 * s + w = o' + (7 * s + w) by omega, show o + 7 * s + w = o + (7 * s + w) by omega]
    exact this
  · funext j
    split
    · have := h (224 + j) (by omega)
      rw [show o' + 224 + j = o' + (224 + j) by omega, show o + 224 + j = o + (224 + j) by omega]
      exact this
    · rfl
def RM (M : xM) (s : aO) : Prop := (nA M, nG M) = s.1 ∧ ((M 9 5 = 0 ∧ s.2.1 = none) ∨ (M 9 5 = 1 ∧ s.2.1 = some (smC M 13 0))) ∧ (∃ c : Nat, c ≤ 4 ∧ M 9 3 = nI c ∧ s.2.2.1 = (List.range c).map (fun k => smC M 12 (229 * (c - 1 - k)))) ∧ ∃ n : Nat, n ≤ 60 ∧ M 9 7 = nI n ∧ s.2.2.2 = (n, sg (M 14) n)
/-- the object's cells stay -/
def frM (M M' : xM) : Prop := ∀ k, (k < 9 ∨ 15 < k) → M' k = M k
theorem frM.rf (M : xM) : frM M M := fun _ _ => rfl
theorem frM.tr {M M1 M2 : xM} (h1 : frM M M1) (h2 : frM M1 M2) : frM M M2 := fun k a => by rw [h2 k a, h1 k a]
def poM (M : xM) (R : Int32 × aO) : Int32 → xM → Prop := fun r M' => r = R.1 ∧ RM M' R.2 ∧ frM M M'
theorem RM.rows {M : xM} {s : aO} (h : RM M s) : nA M = s.1.1 := congrArg Prod.fst h.1
theorem RM.nums {M : xM} {s : aO} (h : RM M s) : nG M = s.1.2 := congrArg Prod.snd h.1
theorem nG_eq {M : xM} {g : Nat → Int32} (h : ∀ j, j < 5 → M 10 (224 + j) = g j) (h2 : ∀ j, 5 ≤ j → g j = 0) : nG M = g := by
  funext j
  unfold nG
  split
  · rename_i q
    exact h j q
  · rename_i q
    exact (h2 j (by omega)).symm
theorem nG_z (M : xM) (j : Nat) (h : 5 ≤ j) : nG M j = 0 := if_neg (by omega)
theorem upd_z {g : Nat → Int32} (h : ∀ j, 5 ≤ j → g j = 0) {k : Nat} (hk : k < 5) (x : Int32) : ∀ j, 5 ≤ j → upd g k x j = 0 := fun j hj => by rw [upd_at, if_neg (by omega), h j hj]
theorem RM.z {M : xM} {s : aO} (h : RM M s) : ∀ j, 5 ≤ j → s.1.2 j = 0 := fun j hj => by rw [← h.nums]; exact nG_z M j hj
/-- cells 10 and 11 alone change -/
theorem RM.mem {M M' : xM} {s : aO} {A' : aR} {g' : Nat → Int32} (h : RM M s) (hA : nA M' = A') (hg : nG M' = g') (hk : ∀ k, k ≠ 10 → k ≠ 11 → M' k = M k) : RM M' (oCur s (A', g')) ∧ frM M M' := by
  obtain ⟨h1, h2, ⟨c, h4, h6, h7⟩, n, h8, h9, h10⟩ := h
  refine ⟨⟨by rw [hA, hg]; rfl, ?_, ⟨c, h4, by rw [hk 9 (by decide) (by decide)]; exact h6, ?_⟩, n, h8, by rw [hk 9 (by decide) (by decide)]; exact h9, by rw [hk 14 (by decide) (by decide)]; exact h10⟩, fun k a => hk k (by omega) (by omega)⟩
  · rw [hk 9 (by decide) (by decide), smC_eq (M := M) (M' := M') (c := 13) (c' := 13) (o := 0) (o' := 0) (fun t _ => by rw [hk 13 (by decide) (by decide)])]
    exact h2
  · have e : ∀ o, smC M' 12 o = smC M 12 o := fun o => smC_eq (fun t _ => by rw [hk 12 (by decide) (by decide)])
    simp only [e]
    exact h7
theorem RM.mSm {M M' : xM} {s : aO} {A' : aR} {g' : Nat → Int32} (h : RM M s) (hm : mSm M M' A' g') (hz : ∀ j, 5 ≤ j → g' j = 0) : RM M' (oCur s (A', g')) ∧ frM M M' := h.mem hm.1 (nG_eq hm.2.1 hz) (fun k k10 _ => hm.2.2 k k10)
theorem nI_1c (n : Nat) : nI n + nI 1 = nI (n + 1) := nI_add n 1
/-! ===== copyState ===== -/
def cpy (M : xM) (c o c' o' k : Nat) : xM := fun a t => if a = c' ∧ o' ≤ t ∧ t < o' + k then M c (o + (t - o')) else M a t
theorem cpy_s {M : xM} {c o c' o' k : Nat} : xset (cpy M c o c' o' k) c' (o' + k) (M c (o + k)) = cpy M c o c' o' (k + 1) := by
  funext a t
  rw [xset_at]
  unfold cpy
  by_cases hc : a = c'
  · subst hc
    by_cases ht : t = o' + k
    · rw [if_pos rfl, if_pos ht, if_pos (by omega)]
      congr 1
      omega
    · rw [if_pos rfl, if_neg ht]
      by_cases h2 : o' ≤ t ∧ t < o' + k
      · rw [if_pos ⟨rfl, h2⟩, if_pos (by omega)]
      · rw [if_neg (fun z => h2 z.2), if_neg (by omega)]
  · rw [if_neg hc, if_neg (fun z => hc z.1), if_neg (fun z => hc z.1)]
theorem cpy_rd {M : xM} {c o c' o' k : Nat} (hcc : c ≠ c') (t : Nat) : cpy M c o c' o' k c t = M c t := by
  unfold cpy
  rw [if_neg (fun z => hcc z.1)]
theorem cpy_ot {M : xM} {c o c' o' k a : Nat} (h : a ≠ c') : cpy M c o c' o' k a = M a := by
  funext t
  unfold cpy
  rw [if_neg (fun z => h z.1)]
theorem cpy_in {M : xM} {c o c' o' k t : Nat} (h : t < k) : cpy M c o c' o' k c' (o' + t) = M c (o + t) := by
  unfold cpy
  rw [if_pos (by omega)]
  congr 1
  omega
theorem cpy_out {M : xM} {c o c' o' k t : Nat} (h : t < o' ∨ o' + k ≤ t) : cpy M c o c' o' k c' t = M c' t := by
  unfold cpy
  rw [if_neg (by omega)]
theorem m_copyState (U : xP) (M : xM) {c o c' o' n n' : Nat} (hc : c < 64) (hc' : c' < 64) (hs : xsh c = .inl n) (hs' : xsh c' = .inl n') (hn : n < 2 ^ 31) (hn' : n' < 2 ^ 31) (ho : o + 229 ≤ n) (ho' : o' + 229 ≤ n') (hcc : c ≠ c') : xMetV U mX4_copyState [.inr c, .inl (nI o), .inr c', .inl (nI o')] M (fun M' => M' = cpy M c o c' o' 229) := by
  refine xMetV.of (L := [some (.inr c), some (.inl (nI o)), some (.inr c'), some (.inl (nI o')), none]) fX4_copyState rfl rfl (Nat.le_of_ble_eq_true rfl) (fun G hN hO hR => ?_)
  have hN : G.2.2.2.2.2.2.2.2.2.2.1 = 5 := hN
  have hO : xOK U G RX4 cX4_copyState 0 := hO
  refine x_iconst (v := nI 0) hO dX4_copyState_0 rfl ?_
  refine x_istore (n := 5) hO dX4_copyState_1 rfl (by decide) hN ?_
  have e0 : cpy M c o c' o' 0 = M := by funext a t; unfold cpy; rw [if_neg (by omega)]
  have h0 := upd_ind (P := fun k _ => XW U G 3 [some (.inr c), some (.inl (nI o)), some (.inr c'), some (.inl (nI o')), some (.inl (nI k))] [] (cpy M c o c' o' k)) 229 ?_ ?_ 229 0 rfl
  · rw [e0] at h0
    exact h0
  · refine x_iload hO dX4_copyState_3 rfl ?_
    refine x_sipush (v := nI 229) hO dX4_copyState_5 rfl ?_
    refine x_icmp_ge (tgt := 29) hO dX4_copyState_8 (by decide) (fun q => ?_) (fun q => ?_)
    · refine x_vret hO hR dX4_copyState_29 ?_
      rfl
    · exact absurd (Int32.le_refl _) q
  · intro k d hd ih
    refine x_iload hO dX4_copyState_3 rfl ?_
    refine x_sipush (v := nI 229) hO dX4_copyState_5 rfl ?_
    refine x_icmp_ge (tgt := 29) hO dX4_copyState_8 (by decide) (fun q => ?_) (fun q => ?_)
    · exact absurd q (nI_ge (by omega) (by decide))
    · refine x_aload_n hO dX4_copyState_11 rfl rfl ?_
      refine x_iload_n hO dX4_copyState_12 rfl rfl ?_
      refine x_iload hO dX4_copyState_13 rfl ?_
      refine x_iadd hO dX4_copyState_15 ?_
      refine x_aload_n hO dX4_copyState_16 rfl rfl ?_
      refine x_iload_n hO dX4_copyState_17 rfl rfl ?_
      refine x_iload hO dX4_copyState_18 rfl ?_
      refine x_iadd hO dX4_copyState_20 ?_
      refine x_iald hO hc hs hn (nI_add _ _) (by omega) dX4_copyState_21 ?_
      refine x_iast hO hc' hs' hn' (nI_add _ _) (by omega) dX4_copyState_22 ?_
      rw [cpy_rd hcc, cpy_s]
      refine x_iinc hO dX4_copyState_23 rfl (by first | exact xinc_n _ | rfl) rfl hN ?_
      refine x_goto (tgt := 3) hO dX4_copyState_26 (by decide) ?_
      exact ih
theorem smC_cpy {M : xM} {c o c' o' : Nat} : smC (cpy M c o c' o' 229) c' o' = smC M c o := smC_eq (fun t ht => cpy_in ht)
/-! ===== record, undo, keep, restore ===== -/
def shM (M : xM) (k : Nat) : xM := fun a t => if a = 12 ∧ t < k then M 12 (t + 229) else M a t
theorem shM_s {M : xM} {k : Nat} : xset (shM M k) 12 k (M 12 (k + 229)) = shM M (k + 1) := by
  funext a t
  rw [xset_at]
  unfold shM
  by_cases hc : a = 12
  · subst hc
    by_cases ht : t = k
    · subst ht
      rw [if_pos rfl, if_pos rfl, if_pos (by omega)]
    · rw [if_pos rfl, if_neg ht]
      by_cases h2 : t < k
      · rw [if_pos ⟨rfl, h2⟩, if_pos (by omega)]
      · rw [if_neg (fun z => h2 z.2), if_neg (by omega)]
  · rw [if_neg hc, if_neg (fun z => hc z.1), if_neg (fun z => hc z.1)]
theorem m_record (U : xP) (M : xM) {s : aO} (h : RM M s) : xMetV U mX4_record [.inr 9] M (fun M' => RM M' (oRec s) ∧ frM M M' ∧ M' 10 = M 10 ∧ M' 15 = M 15 ∧ ∀ j, j ≠ 3 → M' 9 j = M 9 j) := by
  refine xMetV.of (L := [some (.inr 9), none]) fX4_record rfl rfl (Nat.le_of_ble_eq_true rfl) (fun G hN hO hR => ?_)
  have hN : G.2.2.2.2.2.2.2.2.2.2.1 = 2 := hN
  have hO : xOK U G RX4 cX4_record 1 := hO
  obtain ⟨h1, h2, ⟨c, h4, h6, h7⟩, n, h8, h9, h10⟩ := h
  have fin : ∀ (c1 : Nat) (o : Option xV) (M1 : xM), c1 < 4 → M1 9 3 = nI c1 → (∀ j, j ≠ 3 → M1 9 j = M 9 j) → (∀ k, k ≠ 9 → k ≠ 12 → M1 k = M k) → (s.1 :: s.2.2.1).take 4 = s.1 :: (List.range c1).map (fun k => smC M1 12 (229 * (c1 - 1 - k))) → XW U G 49 [some (.inr 9), o] [] M1 := by
    intro c1 o M1 l1 a1 a2 a3 a4
    refine x_aload_n hO dX4_record_49 rfl rfl ?_
    refine x_getR (T := TX4) (j := 0) hO dX4_record_50 flX4_7 (by decide) rfl rfl (by decide) rfl rfl ?_
    refine x_iconst (v := nI 0) hO dX4_record_53 rfl ?_
    refine x_aload_n hO dX4_record_54 rfl rfl ?_
    refine x_getR (T := TX4) (j := 2) hO dX4_record_55 flX4_16 (by decide) rfl rfl (by decide) rfl rfl ?_
    refine x_sipush (v := nI 229) hO dX4_record_58 rfl ?_
    refine x_aload_n hO dX4_record_61 rfl rfl ?_
    refine x_getI (T := TX4) (j := 3) hO dX4_record_62 flX4_32 (by decide) rfl rfl (by decide) rfl rfl ?_
    rw [a1]
    refine x_imul hO dX4_record_65 ?_
    rw [pk_mul]
    refine x_callSv hO (m_copyState U M1 (c := 10) (o := 0) (c' := 12) (o' := 229 * c1) (n := 229) (n' := 916) (by decide) (by decide) rfl rfl (by decide) (by decide) (by decide) (by omega) (by decide)) dX4_record_66 lkX4_36 fX4_copyState sX4_copyState rfl rfl (by decide) (Nat.le_of_ble_eq_true rfl) (fun M2 m2 => ?_)
    have b9 : M2 9 = M1 9 := by rw [m2]; exact cpy_ot (by decide)
    refine x_aload_n hO dX4_record_69 rfl rfl ?_
    refine x_dup hO dX4_record_70 ?_
    refine x_getI (T := TX4) (j := 3) hO dX4_record_71 flX4_32 (by decide) rfl rfl (by decide) rfl rfl ?_
    refine x_iconst (v := nI 1) hO dX4_record_74 rfl ?_
    rw [show M2 9 3 = nI c1 by rw [b9]; exact a1]
    refine x_iadd hO dX4_record_75 ?_
    rw [nI_1c]
    refine x_put (T := TX4) (j := 3) (ty := .int) hO dX4_record_76 flX4_32 (by decide) rfl rfl (by decide) rfl rfl rfl (by decide +kernel) rfl rfl ?_
    refine x_vret hO hR dX4_record_79 ?_
    have ek : ∀ k, k ≠ 9 → k ≠ 12 → xset M2 9 3 (nI (c1 + 1)) k = M k := fun k k9 k12 => by rw [xset_ne _ _ _ k9, m2, cpy_ot k12, a3 k k9 k12]
    have e9 : ∀ j, j ≠ 3 → xset M2 9 3 (nI (c1 + 1)) 9 j = M 9 j := fun j hj => by rw [xset_at, if_pos rfl, if_neg hj, b9, a2 j hj]
    have e12 : xset M2 9 3 (nI (c1 + 1)) 12 = M2 12 := xset_ne _ _ _ (by decide)
    have e93 : xset M2 9 3 (nI (c1 + 1)) 9 3 = nI (c1 + 1) := by rw [xset_at, if_pos rfl, if_pos rfl]
    generalize xset M2 9 3 (nI (c1 + 1)) = M3 at *
    have eq12 : ∀ o, smC M3 12 o = smC M2 12 o := fun o => smC_eq (fun t _ => by rw [e12])
    have new : smC M3 12 (229 * c1) = s.1 := by
      rw [eq12, m2, smC_cpy, ← h1, ← smC_now]
      exact smC_eq (fun t _ => by rw [a3 10 (by decide) (by decide)])
    have old : ∀ i, i < c1 → smC M3 12 (229 * i) = smC M1 12 (229 * i) := fun i hi => by
      rw [eq12]
      exact smC_eq (fun t ht => by rw [m2, cpy_out (by omega)])
    refine ⟨⟨?_, ?_, ⟨c1 + 1, by omega, e93, ?_⟩, n, h8, by rw [e9 7 (by decide)]; exact h9, by rw [ek 14 (by decide) (by decide)]; exact h10⟩, fun k a => ek k (by omega) (by omega), ek 10 (by decide) (by decide), ek 15 (by decide) (by decide), e9⟩
    · have e10 := ek 10 (by decide) (by decide)
      rw [show nA M3 = nA M from nA_keep (fun t _ => by rw [e10]), show nG M3 = nG M by unfold nG; rw [e10]]
      exact h1
    · show (M3 9 5 = 0 ∧ s.2.1 = none) ∨ (M3 9 5 = 1 ∧ s.2.1 = some (smC M3 13 0))
      rw [e9 5 (by decide), smC_eq (M := M) (M' := M3) (c := 13) (c' := 13) (o := 0) (o' := 0) (fun t _ => by rw [ek 13 (by decide) (by decide)])]
      exact h2
    · show (s.1 :: s.2.2.1).take 4 = _
      rw [a4, range_map_succ, show c1 + 1 - 1 - 0 = c1 by omega, new]
      congr 1
      refine List.map_congr_left (fun k hk => ?_)
      have hk := List.mem_range.mp hk
      rw [show c1 + 1 - 1 - (k + 1) = c1 - 1 - k by omega, old _ (by omega)]
  refine x_aload_n hO dX4_record_0 rfl rfl ?_
  refine x_getI (T := TX4) (j := 3) hO dX4_record_1 flX4_32 (by decide) rfl rfl (by decide) rfl rfl ?_
  refine x_iconst (v := nI 4) hO dX4_record_4 rfl ?_
  rw [h6]
  refine x_icmp_ne (tgt := 49) hO dX4_record_5 (by decide) (fun q => ?_) (fun q => ?_)
  · have z : ¬ c = 4 := fun z => q (by rw [z])
    refine fin c none M (by omega) h6 (fun _ _ => rfl) (fun _ _ _ => rfl) ?_
    rw [List.take_of_length_le (by rw [h7]; simp; omega), h7]
  · have z : c = 4 := (nI_eq (by omega) (by decide)).mp q
    subst z
    refine x_iconst (v := nI 0) hO dX4_record_8 rfl ?_
    refine x_istore_n (n := 2) hO dX4_record_9 rfl rfl (by decide) hN ?_
    have e0 : shM M 0 = M := by funext a t; unfold shM; rw [if_neg (by omega)]
    have lp := upd_ind (P := fun k _ => XW U G 10 [some (.inr 9), some (.inl (nI k))] [] (shM M k)) 687 ?_ ?_ 687 0 rfl
    · rw [e0] at lp
      exact lp
    · refine x_iload_n hO dX4_record_10 rfl rfl ?_
      refine x_sipush (v := nI 687) hO dX4_record_11 rfl ?_
      refine x_icmp_ge (tgt := 39) hO dX4_record_14 (by decide) (fun q2 => ?_) (fun q2 => ?_)
      · have e9 : shM M 687 9 = M 9 := by funext t; unfold shM; rw [if_neg (fun z => absurd z.1 (by decide))]
        refine x_aload_n hO dX4_record_39 rfl rfl ?_
        refine x_dup hO dX4_record_40 ?_
        refine x_getI (T := TX4) (j := 3) hO dX4_record_41 flX4_32 (by decide) rfl rfl (by decide) rfl rfl ?_
        rw [show shM M 687 9 3 = nI 4 by rw [e9]; exact h6]
        refine x_iconst (v := nI 1) hO dX4_record_44 rfl ?_
        refine x_isub hO dX4_record_45 ?_
        rw [show nI 4 - nI 1 = nI 3 by decide]
        refine x_put (T := TX4) (j := 3) (ty := .int) hO dX4_record_46 flX4_32 (by decide) rfl rfl (by decide) rfl rfl rfl (by decide +kernel) rfl rfl ?_
        refine fin 3 _ _ (by decide) ?_ (fun j hj => ?_) (fun k k9 k12 => ?_) ?_
        · rw [xset_at, if_pos rfl, if_pos rfl]
        · rw [xset_at, if_pos rfl, if_neg hj, e9]
        · rw [xset_ne _ _ _ k9]
          funext t
          unfold shM
          rw [if_neg (fun z => k12 z.1)]
        · rw [List.take_succ_cons, h7, ← List.map_take, List.take_range, show min 3 4 = 3 from rfl]
          congr 1
          refine List.map_congr_left (fun k hk => ?_)
          have hk := List.mem_range.mp hk
          refine (smC_eq (fun t ht => ?_)).symm
          rw [xset_ne _ _ _ (by decide)]
          unfold shM
          rw [if_pos (by omega)]
          congr 1
          omega
      · exact absurd (Int32.le_refl _) q2
    · intro k d hd ih
      refine x_iload_n hO dX4_record_10 rfl rfl ?_
      refine x_sipush (v := nI 687) hO dX4_record_11 rfl ?_
      refine x_icmp_ge (tgt := 39) hO dX4_record_14 (by decide) (fun q2 => ?_) (fun q2 => ?_)
      · exact absurd q2 (nI_ge (by omega) (by decide))
      · have l1 : k + 229 < 916 := by omega
        have l2 : k < 916 := by omega
        refine x_aload_n hO dX4_record_17 rfl rfl ?_
        refine x_getR (T := TX4) (j := 2) hO dX4_record_18 flX4_16 (by decide) rfl rfl (by decide) rfl rfl ?_
        refine x_iload_n hO dX4_record_21 rfl rfl ?_
        refine x_aload_n hO dX4_record_22 rfl rfl ?_
        refine x_getR (T := TX4) (j := 2) hO dX4_record_23 flX4_16 (by decide) rfl rfl (by decide) rfl rfl ?_
        refine x_iload_n hO dX4_record_26 rfl rfl ?_
        refine x_sipush (v := nI 229) hO dX4_record_27 rfl ?_
        refine x_iadd hO dX4_record_30 ?_
        refine x_iald hO (by decide) rfl (by decide) (nI_add _ _) (l1) dX4_record_31 ?_
        have er : shM M k 12 (k + 229) = M 12 (k + 229) := by unfold shM; rw [if_neg (by omega)]
        rw [er]
        refine x_iast hO (by decide) rfl (by decide) (rfl) (l2) dX4_record_32 ?_
        rw [shM_s]
        refine x_iinc hO dX4_record_33 rfl (by first | exact xinc_n _ | rfl) rfl hN ?_
        refine x_goto (tgt := 10) hO dX4_record_36 (by decide) ?_
        exact ih
theorem km_undo (U : xP) (M : xM) {s : aO} (h : RM M s) : xMetI U mX4_undo [.inr 9] M (poM M (o_undo s)) := by
  refine xMetI.of (ty := .int) (L := [some (.inr 9)]) fX4_undo rfl rfl (Nat.le_of_ble_eq_true rfl) (fun G hN hO hR => ?_)
  have hN : G.2.2.2.2.2.2.2.2.2.2.1 = 1 := hN
  have hO : xOK U G RX4 cX4_undo 1 := hO
  obtain ⟨⟨A, g⟩, sn, hi, tt⟩ := s
  obtain ⟨h1, h2, ⟨c, h4, h6, h7⟩, n, h8, h9, h10⟩ := id h
  simp only at h1 h2 h7 h10
  refine x_aload_n hO dX4_undo_0 rfl rfl ?_
  refine x_getI (T := TX4) (j := 3) hO dX4_undo_1 flX4_32 (by decide) rfl rfl (by decide) rfl rfl ?_
  rw [h6]
  cases c with
  | zero =>
    simp only [List.range_zero, List.map_nil] at h7
    subst h7
    refine x_if_ne (tgt := 10) hO dX4_undo_4 (by decide) (fun q => ?_) (fun q => ?_)
    · exact absurd rfl q
    · refine x_bipush (v := (-4 : Int32)) hO dX4_undo_7 rfl ?_
      refine x_iret hO hR dX4_undo_9 rfl ?_
      exact ⟨rfl, h, frM.rf M⟩
  | succ c =>
    rw [range_map_succ, show c + 1 - 1 - 0 = c by omega] at h7
    have e2 : (List.range c).map (fun k => smC M 12 (229 * (c + 1 - 1 - (k + 1)))) = (List.range c).map (fun k => smC M 12 (229 * (c - 1 - k))) := List.map_congr_left (fun k _ => by rw [show c + 1 - 1 - (k + 1) = c - 1 - k by omega])
    rw [e2] at h7
    subst h7
    refine x_if_ne (tgt := 10) hO dX4_undo_4 (by decide) (fun q => ?_) (fun q => ?_)
    · refine x_aload_n hO dX4_undo_10 rfl rfl ?_
      refine x_dup hO dX4_undo_11 ?_
      refine x_getI (T := TX4) (j := 3) hO dX4_undo_12 flX4_32 (by decide) rfl rfl (by decide) rfl rfl ?_
      rw [h6]
      refine x_iconst (v := nI 1) hO dX4_undo_15 rfl ?_
      refine x_isub hO dX4_undo_16 ?_
      rw [nI_sub1]
      refine x_put (T := TX4) (j := 3) (ty := .int) hO dX4_undo_17 flX4_32 (by decide) rfl rfl (by decide) rfl rfl rfl (by decide +kernel) rfl rfl ?_
      have e9 : ∀ j, j ≠ 3 → xset M 9 3 (nI c) 9 j = M 9 j := fun j hj => by rw [xset_at, if_pos rfl, if_neg hj]
      have e93 : xset M 9 3 (nI c) 9 3 = nI c := by rw [xset_at, if_pos rfl, if_pos rfl]
      have ek : ∀ k, k ≠ 9 → xset M 9 3 (nI c) k = M k := fun k hk => xset_ne _ _ _ hk
      generalize xset M 9 3 (nI c) = M1 at *
      refine x_aload_n hO dX4_undo_20 rfl rfl ?_
      refine x_getR (T := TX4) (j := 2) hO dX4_undo_21 flX4_16 (by decide) rfl rfl (by decide) rfl rfl ?_
      refine x_sipush (v := nI 229) hO dX4_undo_24 rfl ?_
      refine x_aload_n hO dX4_undo_27 rfl rfl ?_
      refine x_getI (T := TX4) (j := 3) hO dX4_undo_28 flX4_32 (by decide) rfl rfl (by decide) rfl rfl ?_
      rw [e93]
      refine x_imul hO dX4_undo_31 ?_
      rw [pk_mul]
      refine x_aload_n hO dX4_undo_32 rfl rfl ?_
      refine x_getR (T := TX4) (j := 0) hO dX4_undo_33 flX4_7 (by decide) rfl rfl (by decide) rfl rfl ?_
      refine x_iconst (v := nI 0) hO dX4_undo_36 rfl ?_
      refine x_callSv hO (m_copyState U M1 (c := 12) (o := 229 * c) (c' := 10) (o' := 0) (n := 916) (n' := 229) (by decide) (by decide) rfl rfl (by decide) (by decide) (by omega) (by decide) (by decide)) dX4_undo_37 lkX4_36 fX4_copyState sX4_copyState rfl rfl (by decide) (Nat.le_of_ble_eq_true rfl) (fun M2 m2 => ?_)
      have b9 : M2 9 = M1 9 := by rw [m2]; exact cpy_ot (by decide)
      have bk : ∀ k, k ≠ 9 → k ≠ 10 → M2 k = M k := fun k k9 k10 => by rw [m2, cpy_ot k10, ek k k9]
      refine x_aload_n hO dX4_undo_40 rfl rfl ?_
      refine x_getI (T := TX4) (j := 3) hO dX4_undo_41 flX4_32 (by decide) rfl rfl (by decide) rfl rfl ?_
      rw [show M2 9 3 = nI c by rw [b9]; exact e93]
      refine x_iret hO hR dX4_undo_44 rfl ?_
      refine ⟨by simp [o_undo], ⟨?_, ?_, ⟨c, by omega, by rw [b9]; exact e93, ?_⟩, n, h8, by rw [b9, e9 7 (by decide)]; exact h9, by rw [bk 14 (by decide) (by decide)]; exact h10⟩, fun k a => bk k (by omega) (by omega)⟩
      · show (nA M2, nG M2) = smC M 12 (229 * c)
        rw [← smC_now, m2, smC_cpy]
        exact smC_eq (fun t _ => by rw [ek 12 (by decide)])
      · show (M2 9 5 = 0 ∧ sn = none) ∨ (M2 9 5 = 1 ∧ sn = some (smC M2 13 0))
        rw [b9, e9 5 (by decide), smC_eq (M := M) (M' := M2) (c := 13) (c' := 13) (o := 0) (o' := 0) (fun t _ => by rw [bk 13 (by decide) (by decide)])]
        exact h2
      · have e : ∀ o, smC M2 12 o = smC M 12 o := fun o => smC_eq (fun t _ => by rw [bk 12 (by decide) (by decide)])
        simp only [e]
        rfl
    · exact absurd q (fun z => by have := (nI_eq (b := 0) (by omega) (by decide)).mp z; omega)
theorem km_keep (U : xP) (M : xM) {s : aO} (h : RM M s) : xMetI U mX4_keep [.inr 9] M (poM M (o_keep s)) := by
  refine xMetI.of (ty := .int) (L := [some (.inr 9)]) fX4_keep rfl rfl (Nat.le_of_ble_eq_true rfl) (fun G hN hO hR => ?_)
  have hN : G.2.2.2.2.2.2.2.2.2.2.1 = 1 := hN
  have hO : xOK U G RX4 cX4_keep 2 := hO
  obtain ⟨h1, h2, ⟨c, h4, h6, h7⟩, n, h8, h9, h10⟩ := id h
  refine x_aload_n hO dX4_keep_0 rfl rfl ?_
  refine x_getR (T := TX4) (j := 0) hO dX4_keep_1 flX4_7 (by decide) rfl rfl (by decide) rfl rfl ?_
  refine x_iconst (v := nI 0) hO dX4_keep_4 rfl ?_
  refine x_aload_n hO dX4_keep_5 rfl rfl ?_
  refine x_getR (T := TX4) (j := 4) hO dX4_keep_6 flX4_19 (by decide) rfl rfl (by decide) rfl rfl ?_
  refine x_iconst (v := nI 0) hO dX4_keep_9 rfl ?_
  refine x_callSv hO (m_copyState U M (c := 10) (o := 0) (c' := 13) (o' := 0) (n := 229) (n' := 229) (by decide) (by decide) rfl rfl (by decide) (by decide) (by decide) (by decide) (by decide)) dX4_keep_10 lkX4_36 fX4_copyState sX4_copyState rfl rfl (by decide) (Nat.le_of_ble_eq_true rfl) (fun M1 m1 => ?_)
  refine x_aload_n hO dX4_keep_13 rfl rfl ?_
  refine x_iconst (v := nI 1) hO dX4_keep_14 rfl ?_
  refine x_put (T := TX4) (j := 5) (ty := .boolean) hO dX4_keep_15 flX4_40 (by decide) rfl rfl (by decide) rfl rfl rfl (by decide +kernel) rfl rfl ?_
  have e95 : xset M1 9 5 (nI 1) 9 5 = 1 := by rw [xset_at, if_pos rfl, if_pos rfl]; rfl
  have e9 : ∀ j, j ≠ 5 → xset M1 9 5 (nI 1) 9 j = M 9 j := fun j hj => by rw [xset_at, if_pos rfl, if_neg hj, m1, cpy_ot (by decide)]
  have ek : ∀ k, k ≠ 9 → k ≠ 13 → xset M1 9 5 (nI 1) k = M k := fun k k9 k13 => by rw [xset_ne _ _ _ k9, m1, cpy_ot k13]
  have e13 : smC (xset M1 9 5 (nI 1)) 13 0 = smC M 10 0 := by
    rw [smC_eq (M := M1) (c := 13) (o := 0) (fun t _ => by rw [xset_ne _ _ _ (by decide)]), m1, smC_cpy]
  generalize xset M1 9 5 (nI 1) = M2 at *
  have hA : nA M2 = s.1.1 := by rw [← h.rows]; exact nA_keep (fun t _ => by rw [ek 10 (by decide) (by decide)])
  have hG : nG M2 = s.1.2 := by rw [← h.nums]; unfold nG; rw [ek 10 (by decide) (by decide)]
  refine x_aload_n hO dX4_keep_18 rfl rfl ?_
  refine x_callV1 hO (m_entries U M2) dX4_keep_19 lkX4_44 fX4_entries vX4_entries (by decide) rfl rfl rfl rfl rfl (by decide) (Nat.le_of_ble_eq_true rfl) ?_
  rw [hA]
  refine x_iret hO hR dX4_keep_22 rfl ?_
  refine ⟨rfl, ⟨by rw [hA, hG]; rfl, Or.inr ⟨e95, ?_⟩, ⟨c, h4, by rw [e9 3 (by decide)]; exact h6, ?_⟩, n, h8, by rw [e9 7 (by decide)]; exact h9, by rw [ek 14 (by decide) (by decide)]; exact h10⟩, fun k a => ek k (by omega) (by omega)⟩
  · rw [e13, smC_now, h1]
    rfl
  · have e : ∀ o, smC M2 12 o = smC M 12 o := fun o => smC_eq (fun t _ => by rw [ek 12 (by decide) (by decide)])
    simp only [e]
    exact h7
theorem km_restore (U : xP) (M : xM) {s : aO} (h : RM M s) : xMetI U mX4_restore [.inr 9] M (poM M (o_restore s)) := by
  refine xMetI.of (ty := .int) (L := [some (.inr 9)]) fX4_restore rfl rfl (Nat.le_of_ble_eq_true rfl) (fun G hN hO hR => ?_)
  have hN : G.2.2.2.2.2.2.2.2.2.2.1 = 1 := hN
  have hO : xOK U G RX4 cX4_restore 2 := hO
  unfold o_restore at hR
  refine x_aload_n hO dX4_restore_0 rfl rfl ?_
  refine x_getI (T := TX4) (j := 5) hO dX4_restore_1 flX4_40 (by decide) rfl rfl (by decide) rfl rfl ?_
  rcases h.2.1 with ⟨f, hs⟩ | ⟨f, hs⟩
  · rw [f]
    simp only [hs] at hR
    refine x_if_ne (tgt := 10) hO dX4_restore_4 (by decide) (fun q => ?_) (fun q => ?_)
    · exact absurd rfl q
    · refine x_bipush (v := (-4 : Int32)) hO dX4_restore_7 rfl ?_
      refine x_iret hO hR dX4_restore_9 rfl ?_
      exact ⟨rfl, h, frM.rf M⟩
  · rw [f]
    simp only [hs] at hR
    refine x_if_ne (tgt := 10) hO dX4_restore_4 (by decide) (fun q => ?_) (fun q => ?_)
    · refine x_aload_n hO dX4_restore_10 rfl rfl ?_
      refine x_callVv hO (m_record U M h) dX4_restore_11 lkX4_48 fX4_record vX4_record (by decide) rfl rfl rfl rfl rfl (by decide) (Nat.le_of_ble_eq_true rfl) (fun M1 m1 => ?_)
      obtain ⟨r1, f1, -⟩ := m1
      have e13 : smC M1 13 0 = smC M 13 0 := by
        rcases r1.2.1 with ⟨z1, z2⟩ | ⟨z1, z2⟩
        · have : s.2.1 = none := z2
          rw [hs] at this
          cases this
        · have : s.2.1 = some (smC M1 13 0) := z2
          rw [hs] at this
          exact (Option.some.inj this).symm
      refine x_aload_n hO dX4_restore_14 rfl rfl ?_
      refine x_getR (T := TX4) (j := 4) hO dX4_restore_15 flX4_19 (by decide) rfl rfl (by decide) rfl rfl ?_
      refine x_iconst (v := nI 0) hO dX4_restore_18 rfl ?_
      refine x_aload_n hO dX4_restore_19 rfl rfl ?_
      refine x_getR (T := TX4) (j := 0) hO dX4_restore_20 flX4_7 (by decide) rfl rfl (by decide) rfl rfl ?_
      refine x_iconst (v := nI 0) hO dX4_restore_23 rfl ?_
      refine x_callSv hO (m_copyState U M1 (c := 13) (o := 0) (c' := 10) (o' := 0) (n := 229) (n' := 229) (by decide) (by decide) rfl rfl (by decide) (by decide) (by decide) (by decide) (by decide)) dX4_restore_24 lkX4_36 fX4_copyState sX4_copyState rfl rfl (by decide) (Nat.le_of_ble_eq_true rfl) (fun M2 m2 => ?_)
      have e10 : (nA M2, nG M2) = smC M 13 0 := by rw [← smC_now, m2, smC_cpy, e13]
      obtain ⟨r2, f2⟩ := r1.mem (M' := M2) (congrArg Prod.fst e10) (congrArg Prod.snd e10) (fun k k10 _ => by rw [m2, cpy_ot k10])
      refine x_aload_n hO dX4_restore_27 rfl rfl ?_
      refine x_callV1 hO (m_entries U M2) dX4_restore_28 lkX4_44 fX4_entries vX4_entries (by decide) rfl rfl rfl rfl rfl (by decide) (Nat.le_of_ble_eq_true rfl) ?_
      rw [show nA M2 = (smC M 13 0).1 from congrArg Prod.fst e10]
      refine x_iret hO hR dX4_restore_31 rfl ?_
      exact ⟨rfl, r2, f1.tr f2⟩
    · exact absurd q (by decide)
