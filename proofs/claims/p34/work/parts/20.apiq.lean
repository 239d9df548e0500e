theorem kc_undo (U : xP) (M : xM) {s : aO} (h : RC M s) : xMetI U mX3_undo [.inr 0] M (poC M (o_undo s)) := by
  refine xMetI.of (ty := .int) (L := [some (.inr 0)]) fX3_undo rfl rfl (Nat.le_of_ble_eq_true rfl) (fun G hN hO hR => ?_)
  have hN : G.2.2.2.2.2.2.2.2.2.2.1 = 1 := hN
  have hO : xOK U G RX3 cX3_undo 3 := hO
  obtain ⟨⟨A, g⟩, sn, hi, tt⟩ := s
  obtain ⟨h1, h2, ⟨o, c, h3, h4, h5, h6, h7⟩, n, h8, h9, h10⟩ := id h
  simp only at h1 h2 h7 h10
  refine x_aload_n hO dX3_undo_0 rfl rfl ?_
  refine x_getR (T := TX3) (j := 2) hO dX3_undo_1 flX3_22 (by decide) rfl rfl (by decide) rfl rfl ?_
  refine x_getNI (T := TX0) (j := 2) hO dX3_undo_4 flX3_128 (by decide) rfl rfl (by decide) rfl rfl ?_
  rw [h6]
  cases c with
  | zero =>
    simp only [List.range_zero, List.map_nil] at h7
    subst h7
    refine x_if_ne (tgt := 13) hO dX3_undo_7 (by decide) (fun c => ?_) (fun c => ?_)
    · exact absurd rfl c
    · refine x_bipush (v := (-4 : Int32)) hO dX3_undo_10 rfl ?_
      refine x_iret hO hR dX3_undo_12 rfl ?_
      exact ⟨rfl, h, frC.rf M⟩
  | succ c =>
    rw [range_map_succ, show c + 1 - 1 - 0 = c by omega] at h7
    have e2 : (List.range c).map (fun k => stC M (hb o (c + 1 - 1 - (k + 1)))) = (List.range c).map (fun k => stC M (hb o (c - 1 - k))) := List.map_congr_left (fun k _ => by rw [show c + 1 - 1 - (k + 1) = c - 1 - k by omega])
    rw [e2] at h7
    subst h7
    refine x_if_ne (tgt := 13) hO dX3_undo_7 (by decide) (fun c1 => ?_) (fun c1 => ?_)
    · refine x_aload_n hO dX3_undo_13 rfl rfl ?_
      refine x_getR (T := TX3) (j := 2) hO dX3_undo_14 flX3_22 (by decide) rfl rfl (by decide) rfl rfl ?_
      refine x_aload_n hO dX3_undo_17 rfl rfl ?_
      refine x_getR (T := TX3) (j := 0) hO dX3_undo_18 flX3_10 (by decide) rfl rfl (by decide) rfl rfl ?_
      refine x_callVv hO (k_takeLatest U M h5 h6 h3 (by omega)) dX3_undo_21 lkX3_131 fX0_takeLatestInto vX0_takeLatestInto (by decide) rfl rfl rfl rfl rfl (by decide) (Nat.le_of_ble_eq_true rfl) (fun M1 h11 => ?_)
      obtain ⟨a1, a2, a3, a4, a5⟩ := h11
      refine x_aload_n hO dX3_undo_24 rfl rfl ?_
      refine x_getR (T := TX3) (j := 2) hO dX3_undo_25 flX3_22 (by decide) rfl rfl (by decide) rfl rfl ?_
      refine x_getNI (T := TX0) (j := 2) hO dX3_undo_28 flX3_128 (by decide) rfl rfl (by decide) rfl rfl ?_
      rw [a2]
      refine x_iret hO hR dX3_undo_31 rfl ?_
      have eb : ∀ i, stC M1 (hb o i) = stC M (hb o i) := fun i => stC_fr (fun k a _ => a5 k (by unfold hb at a; omega) (by unfold hb at a; omega))
      refine ⟨by simp [o_undo], ⟨?_, ?_, ⟨o, c, h3, by omega, a1, a2, ?_⟩, n, h8, by rw [a5 3 (by decide) (by decide)]; exact h9, by rw [a5 4 (by decide) (by decide)]; exact h10⟩, fun k a b => a5 k (by omega) (by omega)⟩
      · exact stC_eq a3 a4
      · rw [a5 0 (by decide) (by decide), stC_fr (M := M) (M' := M1) (b := 24) (fun k _ _ => a5 k (by omega) (by omega))]
        exact h2
      · simp only [eb]
        rfl
    · exact absurd c1 (fun z => by have := (nI_eq (b := 0) (by omega) (by decide)).mp z; omega)
theorem kc_keep (U : xP) (M : xM) {s : aO} (h : RC M s) : xMetI U mX3_keep [.inr 0] M (poC M (o_keep s)) := by
  refine xMetI.of (ty := .int) (L := [some (.inr 0)]) fX3_keep rfl rfl (Nat.le_of_ble_eq_true rfl) (fun G hN hO hR => ?_)
  have hN : G.2.2.2.2.2.2.2.2.2.2.1 = 1 := hN
  have hO : xOK U G RX3 cX3_keep 3 := hO
  obtain ⟨h1, h2, ⟨o, c, h3, h4, h5, h6, h7⟩, n, h8, h9, h10⟩ := id h
  refine x_aload_n hO dX3_keep_0 rfl rfl ?_
  refine x_getR (T := TX3) (j := 0) hO dX3_keep_1 flX3_10 (by decide) rfl rfl (by decide) rfl rfl ?_
  refine x_aload_n hO dX3_keep_4 rfl rfl ?_
  refine x_getR (T := TX3) (j := 1) hO dX3_keep_5 flX3_16 (by decide) rfl rfl (by decide) rfl rfl ?_
  refine x_callSv hO (k_copyTo U M (b := 24) (Or.inl rfl)) dX3_keep_8 lkX3_134 fX3_copyState sX3_copyState rfl rfl (by decide) (Nat.le_of_ble_eq_true rfl) (fun M1 h11 => ?_)
  obtain ⟨a1, a2, a3⟩ := h11
  refine x_aload_n hO dX3_keep_11 rfl rfl ?_
  refine x_iconst (v := nI 1) hO dX3_keep_12 rfl ?_
  refine x_put (T := TX3) (j := 4) (ty := .boolean) hO dX3_keep_13 flX3_33 (by decide) rfl rfl (by decide) rfl rfl rfl (by decide +kernel) rfl rfl ?_
  have e : ∀ k, k ≠ 0 → (k < 24 ∨ 32 ≤ k) → xset M1 0 4 (nI 1) k = M k := fun k k0 hk => by rw [xset_ne _ _ _ k0, a3 k hk]
  have e24 : ∀ k, k ≠ 0 → xset M1 0 4 (nI 1) k = M1 k := fun k k0 => xset_ne _ _ _ k0
  have e04 : xset M1 0 4 (nI 1) 0 4 = 1 := by rw [xset_at, if_pos rfl, if_pos rfl]; rfl
  generalize xset M1 0 4 (nI 1) = M2 at *
  have eb : ∀ i, stC M2 (hb o i) = stC M (hb o i) := fun i => stC_fr (fun k a _ => e k (by unfold hb at a; omega) (by unfold hb at a; omega))
  have e16 : stC M2 16 = stC M 16 := stC_fr (fun k a b => e k (by omega) (by omega))
  have e2 : stC M2 24 = stC M 16 := by
    rw [stC_fr (M := M1) (M' := M2) (b := 24) (fun k _ _ => e24 k (by omega))]
    exact stC_eq a1 a2
  have hA : cA M2 16 = s.1.1 := by rw [← h.rows]; exact congrArg Prod.fst e16
  refine x_aload_n hO dX3_keep_16 rfl rfl ?_
  refine x_getR (T := TX3) (j := 0) hO dX3_keep_17 flX3_10 (by decide) rfl rfl (by decide) rfl rfl ?_
  refine x_callV1 hO (k_entries U M2) dX3_keep_20 lkX3_85 fX1_entries vX1_entries (by decide) rfl rfl rfl rfl rfl (by decide) (Nat.le_of_ble_eq_true rfl) ?_
  rw [hA]
  refine x_iret hO hR dX3_keep_23 rfl ?_
  refine ⟨rfl, ⟨by rw [e16]; exact h1, Or.inr ⟨e04, ?_⟩, ⟨o, c, h3, h4, by rw [e 1 (by decide) (by decide)]; exact h5, by rw [e 1 (by decide) (by decide)]; exact h6, ?_⟩, n, h8, by rw [e 3 (by decide) (by decide)]; exact h9, by rw [e 4 (by decide) (by decide)]; exact h10⟩, fun k a b => e k (by omega) (by omega)⟩
  · rw [e2, h1]
    rfl
  · simp only [eb]
    exact h7
theorem kc_restore (U : xP) (M : xM) {s : aO} (h : RC M s) : xMetI U mX3_restore [.inr 0] M (poC M (o_restore s)) := by
  refine xMetI.of (ty := .int) (L := [some (.inr 0)]) fX3_restore rfl rfl (Nat.le_of_ble_eq_true rfl) (fun G hN hO hR => ?_)
  have hN : G.2.2.2.2.2.2.2.2.2.2.1 = 1 := hN
  have hO : xOK U G RX3 cX3_restore 3 := hO
  unfold o_restore at hR
  refine x_aload_n hO dX3_restore_0 rfl rfl ?_
  refine x_getI (T := TX3) (j := 4) hO dX3_restore_1 flX3_33 (by decide) rfl rfl (by decide) rfl rfl ?_
  rcases h.2.1 with ⟨f, hs⟩ | ⟨f, hs⟩
  · rw [f]
    simp only [hs] at hR
    refine x_if_ne (tgt := 10) hO dX3_restore_4 (by decide) (fun c => ?_) (fun c => ?_)
    · exact absurd rfl c
    · refine x_bipush (v := (-4 : Int32)) hO dX3_restore_7 rfl ?_
      refine x_iret hO hR dX3_restore_9 rfl ?_
      exact ⟨rfl, h, frC.rf M⟩
  · rw [f]
    simp only [hs] at hR
    refine x_if_ne (tgt := 10) hO dX3_restore_4 (by decide) (fun c => ?_) (fun c => ?_)
    · refine x_aload_n hO dX3_restore_10 rfl rfl ?_
      refine x_getR (T := TX3) (j := 2) hO dX3_restore_11 flX3_22 (by decide) rfl rfl (by decide) rfl rfl ?_
      refine x_aload_n hO dX3_restore_14 rfl rfl ?_
      refine x_getR (T := TX3) (j := 0) hO dX3_restore_15 flX3_10 (by decide) rfl rfl (by decide) rfl rfl ?_
      refine x_callVv hO (k_rec U M h) dX3_restore_18 lkX3_51 fX0_record vX0_record (by decide) rfl rfl rfl rfl rfl (by decide) (Nat.le_of_ble_eq_true rfl) (fun M1 h1 => ?_)
      obtain ⟨r1, f1, -, -, -⟩ := h1
      obtain ⟨b1, b2, ⟨o, c', b3, b4, b5, b6, b7⟩, n, b8, b9, b10⟩ := id r1
      have e24 : stC M1 24 = stC M 24 := by
        rcases b2 with ⟨z1, z2⟩ | ⟨z1, z2⟩
        · have : s.2.1 = none := z2
          rw [hs] at this
          cases this
        · have : s.2.1 = some (stC M1 24) := z2
          rw [hs] at this
          exact (Option.some.inj this).symm
      refine x_aload_n hO dX3_restore_21 rfl rfl ?_
      refine x_getR (T := TX3) (j := 1) hO dX3_restore_22 flX3_16 (by decide) rfl rfl (by decide) rfl rfl ?_
      refine x_aload_n hO dX3_restore_25 rfl rfl ?_
      refine x_getR (T := TX3) (j := 0) hO dX3_restore_26 flX3_10 (by decide) rfl rfl (by decide) rfl rfl ?_
      refine x_callSv hO (k_copyOf U M1 (b := 24) (Or.inl rfl)) dX3_restore_29 lkX3_134 fX3_copyState sX3_copyState rfl rfl (by decide) (Nat.le_of_ble_eq_true rfl) (fun M2 h2 => ?_)
      obtain ⟨a1, a2, a3⟩ := h2
      have e16 : stC M2 16 = stC M 24 := (stC_eq a1 a2).trans e24
      have eb : ∀ i, stC M2 (hb o i) = stC M1 (hb o i) := fun i => stC_fr (fun k a _ => a3 k (by unfold hb at a; omega))
      have hA : cA M2 16 = (stC M 24).1 := congrArg Prod.fst e16
      refine x_aload_n hO dX3_restore_32 rfl rfl ?_
      refine x_getR (T := TX3) (j := 0) hO dX3_restore_33 flX3_10 (by decide) rfl rfl (by decide) rfl rfl ?_
      refine x_callV1 hO (k_entries U M2) dX3_restore_36 lkX3_85 fX1_entries vX1_entries (by decide) rfl rfl rfl rfl rfl (by decide) (Nat.le_of_ble_eq_true rfl) ?_
      rw [hA]
      refine x_iret hO hR dX3_restore_39 rfl ?_
      refine ⟨rfl, ⟨e16, ?_, ⟨o, c', b3, b4, by rw [a3 1 (by omega)]; exact b5, by rw [a3 1 (by omega)]; exact b6, ?_⟩, n, b8, by rw [a3 3 (by omega)]; exact b9, by rw [a3 4 (by omega)]; exact b10⟩, f1.tr (fun k a b => a3 k (by omega))⟩
      · rw [a3 0 (by omega), stC_fr (M := M1) (M' := M2) (b := 24) (fun k _ _ => a3 k (by omega))]
        exact b2
      · simp only [eb]
        exact b7
    · exact absurd c (by decide)
/-! ===== queries ===== -/
/-- what a query answers -/
def quC (M : xM) (v : Int32) : Int32 → xM → Prop := fun r M' => r = v ∧ M' = M
theorem q_tell {M : xM} {s : aO} (h : RC M s) {w : Nat} (hw : w < 6) (x : Int32) : (if ixB x 32 then (if aoc (cA M 16) x.toNatClampNeg then M (16 + 1 + w) x.toNatClampNeg else -4) else -1) = q_in s.1.1 w x := by
  unfold q_in
  rw [h.rows]
  split
  · split
    · rename_i q
      rw [← h.rows] at q ⊢
      exact cA_in q hw
    · rfl
  · rfl
theorem kc_ruleIn (U : xP) (M : xM) {s : aO} (h : RC M s) (x : Int32) : xMetI U mX3_ruleIn [.inr 0, .inl x] M (quC M (q_in s.1.1 0 x)) := by
  refine xMetI.of (ty := .int) (L := [some (.inr 0), some (.inl x)]) fX3_ruleIn rfl rfl (Nat.le_of_ble_eq_true rfl) (fun G hN hO hR => ?_)
  have hN : G.2.2.2.2.2.2.2.2.2.2.1 = 2 := hN
  have hO : xOK U G RX3 cX3_ruleIn 2 := hO
  rw [← q_tell h (w := 0) (by decide) x] at hR
  refine x_aload_n hO dX3_ruleIn_0 rfl rfl ?_
  refine x_getR (T := TX3) (j := 0) hO dX3_ruleIn_1 flX3_10 (by decide) rfl rfl (by decide) rfl rfl ?_
  refine x_aload_n hO dX3_ruleIn_4 rfl rfl ?_
  refine x_getR (T := TX3) (j := 0) hO dX3_ruleIn_5 flX3_10 (by decide) rfl rfl (by decide) rfl rfl ?_
  refine x_getNR (T := TX1) (j := 0) hO dX3_ruleIn_8 flX3_138 (by decide) rfl rfl (by decide) rfl rfl ?_
  refine x_iload_n hO dX3_ruleIn_11 rfl rfl ?_
  refine x_callV1 hO (k_told U M (k := 17) (by decide) rfl x) dX3_ruleIn_12 lkX3_99 fX1_told vX1_told (by decide) rfl rfl rfl rfl rfl (by decide) (Nat.le_of_ble_eq_true rfl) ?_
  refine x_iret hO hR dX3_ruleIn_15 rfl ?_
  exact ⟨rfl, rfl⟩
theorem kc_maskIn (U : xP) (M : xM) {s : aO} (h : RC M s) (x : Int32) : xMetI U mX3_maskIn [.inr 0, .inl x] M (quC M (q_in s.1.1 2 x)) := by
  refine xMetI.of (ty := .int) (L := [some (.inr 0), some (.inl x)]) fX3_maskIn rfl rfl (Nat.le_of_ble_eq_true rfl) (fun G hN hO hR => ?_)
  have hN : G.2.2.2.2.2.2.2.2.2.2.1 = 2 := hN
  have hO : xOK U G RX3 cX3_maskIn 2 := hO
  rw [← q_tell h (w := 2) (by decide) x] at hR
  refine x_aload_n hO dX3_maskIn_0 rfl rfl ?_
  refine x_getR (T := TX3) (j := 0) hO dX3_maskIn_1 flX3_10 (by decide) rfl rfl (by decide) rfl rfl ?_
  refine x_aload_n hO dX3_maskIn_4 rfl rfl ?_
  refine x_getR (T := TX3) (j := 0) hO dX3_maskIn_5 flX3_10 (by decide) rfl rfl (by decide) rfl rfl ?_
  refine x_getNR (T := TX1) (j := 2) hO dX3_maskIn_8 flX3_141 (by decide) rfl rfl (by decide) rfl rfl ?_
  refine x_iload_n hO dX3_maskIn_11 rfl rfl ?_
  refine x_callV1 hO (k_told U M (k := 19) (by decide) rfl x) dX3_maskIn_12 lkX3_99 fX1_told vX1_told (by decide) rfl rfl rfl rfl rfl (by decide) (Nat.le_of_ble_eq_true rfl) ?_
  refine x_iret hO hR dX3_maskIn_15 rfl ?_
  exact ⟨rfl, rfl⟩
theorem kc_valueIn (U : xP) (M : xM) {s : aO} (h : RC M s) (x : Int32) : xMetI U mX3_valueIn [.inr 0, .inl x] M (quC M (q_in s.1.1 3 x)) := by
  refine xMetI.of (ty := .int) (L := [some (.inr 0), some (.inl x)]) fX3_valueIn rfl rfl (Nat.le_of_ble_eq_true rfl) (fun G hN hO hR => ?_)
  have hN : G.2.2.2.2.2.2.2.2.2.2.1 = 2 := hN
  have hO : xOK U G RX3 cX3_valueIn 2 := hO
  rw [← q_tell h (w := 3) (by decide) x] at hR
  refine x_aload_n hO dX3_valueIn_0 rfl rfl ?_
  refine x_getR (T := TX3) (j := 0) hO dX3_valueIn_1 flX3_10 (by decide) rfl rfl (by decide) rfl rfl ?_
  refine x_aload_n hO dX3_valueIn_4 rfl rfl ?_
  refine x_getR (T := TX3) (j := 0) hO dX3_valueIn_5 flX3_10 (by decide) rfl rfl (by decide) rfl rfl ?_
  refine x_getNR (T := TX1) (j := 3) hO dX3_valueIn_8 flX3_144 (by decide) rfl rfl (by decide) rfl rfl ?_
  refine x_iload_n hO dX3_valueIn_11 rfl rfl ?_
  refine x_callV1 hO (k_told U M (k := 20) (by decide) rfl x) dX3_valueIn_12 lkX3_99 fX1_told vX1_told (by decide) rfl rfl rfl rfl rfl (by decide) (Nat.le_of_ble_eq_true rfl) ?_
  refine x_iret hO hR dX3_valueIn_15 rfl ?_
  exact ⟨rfl, rfl⟩
theorem kc_sortIn (U : xP) (M : xM) {s : aO} (h : RC M s) (x : Int32) : xMetI U mX3_sortIn [.inr 0, .inl x] M (quC M (q_sort s.1.1 x)) := by
  refine xMetI.of (ty := .int) (L := [some (.inr 0), some (.inl x), none]) fX3_sortIn rfl rfl (Nat.le_of_ble_eq_true rfl) (fun G hN hO hR => ?_)
  have hN : G.2.2.2.2.2.2.2.2.2.2.1 = 3 := hN
  have hO : xOK U G RX3 cX3_sortIn 2 := hO
  unfold q_sort at hR
  rw [← q_tell h (w := 2) (by decide) x] at hR
  refine x_aload_n hO dX3_sortIn_0 rfl rfl ?_
  refine x_getR (T := TX3) (j := 0) hO dX3_sortIn_1 flX3_10 (by decide) rfl rfl (by decide) rfl rfl ?_
  refine x_aload_n hO dX3_sortIn_4 rfl rfl ?_
  refine x_getR (T := TX3) (j := 0) hO dX3_sortIn_5 flX3_10 (by decide) rfl rfl (by decide) rfl rfl ?_
  refine x_getNR (T := TX1) (j := 2) hO dX3_sortIn_8 flX3_141 (by decide) rfl rfl (by decide) rfl rfl ?_
  refine x_iload_n hO dX3_sortIn_11 rfl rfl ?_
  refine x_callV1 hO (k_told U M (k := 19) (by decide) rfl x) dX3_sortIn_12 lkX3_99 fX1_told vX1_told (by decide) rfl rfl rfl rfl rfl (by decide) (Nat.le_of_ble_eq_true rfl) ?_
  generalize (if ixB x 32 then (if aoc (cA M 16) x.toNatClampNeg then M 19 x.toNatClampNeg else -4) else -1) = v at *
  have hR : xRI U G .int (quC M (if v < 0 then v else aSo v)) := hR
  refine x_istore_n (n := 3) hO dX3_sortIn_15 rfl rfl (by decide) hN ?_
  refine x_iload_n hO dX3_sortIn_16 rfl rfl ?_
  refine x_if_ge (tgt := 24) hO dX3_sortIn_17 (by decide) (fun c => ?_) (fun c => ?_)
  · rw [if_neg (Int32.not_lt.mpr c)] at hR
    refine x_iload_n hO dX3_sortIn_24 rfl rfl ?_
    refine x_callS1 hO (k_sortOfMask U M v) dX3_sortIn_25 lkX3_147 fX3_sortOfMask sX3_sortOfMask rfl rfl (by decide) (Nat.le_of_ble_eq_true rfl) ?_
    refine x_iret hO hR dX3_sortIn_28 rfl ?_
    exact ⟨rfl, rfl⟩
  · rw [if_pos (Int32.not_le.mp c)] at hR
    refine x_iload_n hO dX3_sortIn_20 rfl rfl ?_
    refine x_goto (tgt := 28) hO dX3_sortIn_21 (by decide) ?_
    refine x_iret hO hR dX3_sortIn_28 rfl ?_
    exact ⟨rfl, rfl⟩
theorem kc_slotOf (U : xP) (M : xM) {s : aO} (h : RC M s) (x y : Int32) : xMetI U mX3_slotOf [.inr 0, .inl x, .inl y] M (quC M (q_slotOf s.1.1 x y)) := by
  refine xMetI.of (ty := .int) (L := [some (.inr 0), some (.inl x), some (.inl y), none]) fX3_slotOf rfl rfl (Nat.le_of_ble_eq_true rfl) (fun G hN hO hR => ?_)
  have hN : G.2.2.2.2.2.2.2.2.2.2.1 = 4 := hN
  have hO : xOK U G RX3 cX3_slotOf 2 := hO
  unfold q_slotOf at hR
  refine x_aload_n hO dX3_slotOf_0 rfl rfl ?_
  refine x_getR (T := TX3) (j := 0) hO dX3_slotOf_1 flX3_10 (by decide) rfl rfl (by decide) rfl rfl ?_
  refine x_iload_n hO dX3_slotOf_4 rfl rfl ?_
  refine x_iload_n hO dX3_slotOf_5 rfl rfl ?_
  refine x_callV1 hO (k_slotHolding U M x y) dX3_slotOf_6 lkX3_150 fX1_slotHolding vX1_slotHolding (by decide) rfl rfl rfl rfl rfl (by decide) (Nat.le_of_ble_eq_true rfl) ?_
  rw [h.rows]
  generalize aN (nF (pPart s.1.1 x y) 0 32) = v at *
  refine x_istore_n (n := 4) hO dX3_slotOf_9 rfl rfl (by decide) hN ?_
  refine x_iload_n hO dX3_slotOf_10 rfl rfl ?_
  refine x_iconst (v := (-1 : Int32)) hO dX3_slotOf_11 rfl ?_
  refine x_icmp_ne (tgt := 19) hO dX3_slotOf_12 (by decide) (fun c => ?_) (fun c => ?_)
  · refine x_iload_n hO dX3_slotOf_19 rfl rfl ?_
    refine x_iret hO hR dX3_slotOf_20 rfl ?_
    exact ⟨rfl, rfl⟩
  · subst c
    refine x_iconst (v := (-1 : Int32)) hO dX3_slotOf_15 rfl ?_
    refine x_goto (tgt := 20) hO dX3_slotOf_16 (by decide) ?_
    refine x_iret hO hR dX3_slotOf_20 rfl ?_
    exact ⟨rfl, rfl⟩
theorem kc_parts (U : xP) (M : xM) {s : aO} (h : RC M s) (x : Int32) : xMetI U mX3_parts [.inr 0, .inl x] M (quC M (q_parts s.1.1 x)) := by
  refine xMetI.of (ty := .int) (L := [some (.inr 0), some (.inl x), none]) fX3_parts rfl rfl (Nat.le_of_ble_eq_true rfl) (fun G hN hO hR => ?_)
  have hN : G.2.2.2.2.2.2.2.2.2.2.1 = 3 := hN
  have hO : xOK U G RX3 cX3_parts 2 := hO
  unfold q_parts at hR
  have hle := nC_le (pRule s.1.1 x) 32
  refine x_aload_n hO dX3_parts_0 rfl rfl ?_
  refine x_getR (T := TX3) (j := 0) hO dX3_parts_1 flX3_10 (by decide) rfl rfl (by decide) rfl rfl ?_
  refine x_iload_n hO dX3_parts_4 rfl rfl ?_
  refine x_callV1 hO (k_entriesOf U M x) dX3_parts_5 lkX3_70 fX1_entriesOf vX1_entriesOf (by decide) rfl rfl rfl rfl rfl (by decide) (Nat.le_of_ble_eq_true rfl) ?_
  rw [h.rows]
  generalize nC (pRule s.1.1 x) 32 = n at *
  refine x_istore_n (n := 3) hO dX3_parts_8 rfl rfl (by decide) hN ?_
  refine x_iload_n hO dX3_parts_9 rfl rfl ?_
  refine x_if_ne (tgt := 17) hO dX3_parts_10 (by decide) (fun c => ?_) (fun c => ?_)
  · rw [if_neg (fun z => c (by rw [z]; rfl))] at hR
    refine x_iload_n hO dX3_parts_17 rfl rfl ?_
    refine x_iret hO hR dX3_parts_18 rfl ?_
    exact ⟨rfl, rfl⟩
  · rw [if_pos ((nI_eq (b := 0) (by omega) (by decide)).mp c)] at hR
    refine x_iconst (v := (-1 : Int32)) hO dX3_parts_13 rfl ?_
    refine x_goto (tgt := 18) hO dX3_parts_14 (by decide) ?_
    refine x_iret hO hR dX3_parts_18 rfl ?_
    exact ⟨rfl, rfl⟩
theorem pPart_oc {A : aR} {x y : Int32} (h : nF (pPart A x y) 0 32 < 32) : aoc A (nF (pPart A x y) 0 32) = true ∧ A (nF (pPart A x y) 0 32) 0 = x ∧ A (nF (pPart A x y) 0 32) 1 = y := by
  have := nF_yes (P := pPart A x y) 32 0 (by omega)
  simp only [pPart, Bool.and_eq_true, beq_iff_eq] at this
  exact ⟨this.1, this.2.1, this.2.2⟩
theorem q_ofs {M : xM} {s : aO} (h : RC M s) {k w : Nat} (hk : k = 17 + w) (hw : w < 6 ∨ w = 6) (x : Int32) : (if ixB (aN (nF (pPart s.1.1 x 0) 0 32)) 32 then (if aoc (cA M 16) (aN (nF (pPart s.1.1 x 0) 0 32)).toNatClampNeg then M k (aN (nF (pPart s.1.1 x 0) 0 32)).toNatClampNeg else -4) else -1) = q_of s.1.1 w x := by
  unfold q_of
  by_cases q : nF (pPart s.1.1 x 0) 0 32 < 32
  · obtain ⟨ho, -, h1⟩ := pPart_oc q
    rw [if_pos q, aN_lt q, ixB_n q (by decide), nI_clamp (by omega)]
    rw [h.rows, if_pos rfl, if_pos ho]
    rw [← h.rows] at *
    subst hk
    rcases hw with hw | rfl
    · exact cA_in ho hw
    · exact cA_hit ho h1
  · rw [if_neg q, aN_ge q]
    rfl
theorem kc_rank (U : xP) (M : xM) {s : aO} (h : RC M s) (x : Int32) : xMetI U mX3_rank [.inr 0, .inl x] M (quC M (q_of s.1.1 4 x)) := by
  refine xMetI.of (ty := .int) (L := [some (.inr 0), some (.inl x)]) fX3_rank rfl rfl (Nat.le_of_ble_eq_true rfl) (fun G hN hO hR => ?_)
  have hN : G.2.2.2.2.2.2.2.2.2.2.1 = 2 := hN
  have hO : xOK U G RX3 cX3_rank 2 := hO
  rw [← q_ofs h (k := 21) rfl (by decide) x] at hR
  refine x_aload_n hO dX3_rank_0 rfl rfl ?_
  refine x_getR (T := TX3) (j := 0) hO dX3_rank_1 flX3_10 (by decide) rfl rfl (by decide) rfl rfl ?_
  refine x_aload_n hO dX3_rank_4 rfl rfl ?_
  refine x_getR (T := TX3) (j := 0) hO dX3_rank_5 flX3_10 (by decide) rfl rfl (by decide) rfl rfl ?_
  refine x_getNR (T := TX1) (j := 4) hO dX3_rank_8 flX3_153 (by decide) rfl rfl (by decide) rfl rfl ?_
  refine x_aload_n hO dX3_rank_11 rfl rfl ?_
  refine x_getR (T := TX3) (j := 0) hO dX3_rank_12 flX3_10 (by decide) rfl rfl (by decide) rfl rfl ?_
  refine x_iload_n hO dX3_rank_15 rfl rfl ?_
  refine x_iconst (v := nI 0) hO dX3_rank_16 rfl ?_
  refine x_callV1 hO (k_slotHolding U M x (nI 0)) dX3_rank_17 lkX3_150 fX1_slotHolding vX1_slotHolding (by decide) rfl rfl rfl rfl rfl (by decide) (Nat.le_of_ble_eq_true rfl) ?_
  rw [h.rows] at *
  refine x_callV1 hO (k_told U M (k := 21) (by decide) rfl _) dX3_rank_20 lkX3_99 fX1_told vX1_told (by decide) rfl rfl rfl rfl rfl (by decide) (Nat.le_of_ble_eq_true rfl) ?_
  rw [h.rows]
  refine x_iret hO hR dX3_rank_23 rfl ?_
  exact ⟨rfl, rfl⟩
theorem kc_action (U : xP) (M : xM) {s : aO} (h : RC M s) (x : Int32) : xMetI U mX3_action [.inr 0, .inl x] M (quC M (q_of s.1.1 5 x)) := by
  refine xMetI.of (ty := .int) (L := [some (.inr 0), some (.inl x)]) fX3_action rfl rfl (Nat.le_of_ble_eq_true rfl) (fun G hN hO hR => ?_)
  have hN : G.2.2.2.2.2.2.2.2.2.2.1 = 2 := hN
  have hO : xOK U G RX3 cX3_action 2 := hO
  rw [← q_ofs h (k := 22) rfl (by decide) x] at hR
  refine x_aload_n hO dX3_action_0 rfl rfl ?_
  refine x_getR (T := TX3) (j := 0) hO dX3_action_1 flX3_10 (by decide) rfl rfl (by decide) rfl rfl ?_
  refine x_aload_n hO dX3_action_4 rfl rfl ?_
  refine x_getR (T := TX3) (j := 0) hO dX3_action_5 flX3_10 (by decide) rfl rfl (by decide) rfl rfl ?_
  refine x_getNR (T := TX1) (j := 5) hO dX3_action_8 flX3_95 (by decide) rfl rfl (by decide) rfl rfl ?_
  refine x_aload_n hO dX3_action_11 rfl rfl ?_
  refine x_getR (T := TX3) (j := 0) hO dX3_action_12 flX3_10 (by decide) rfl rfl (by decide) rfl rfl ?_
  refine x_iload_n hO dX3_action_15 rfl rfl ?_
  refine x_iconst (v := nI 0) hO dX3_action_16 rfl ?_
  refine x_callV1 hO (k_slotHolding U M x (nI 0)) dX3_action_17 lkX3_150 fX1_slotHolding vX1_slotHolding (by decide) rfl rfl rfl rfl rfl (by decide) (Nat.le_of_ble_eq_true rfl) ?_
  rw [h.rows] at *
  refine x_callV1 hO (k_told U M (k := 22) (by decide) rfl _) dX3_action_20 lkX3_99 fX1_told vX1_told (by decide) rfl rfl rfl rfl rfl (by decide) (Nat.le_of_ble_eq_true rfl) ?_
  rw [h.rows]
  refine x_iret hO hR dX3_action_23 rfl ?_
  exact ⟨rfl, rfl⟩
theorem kc_hits (U : xP) (M : xM) {s : aO} (h : RC M s) (x : Int32) : xMetI U mX3_hits [.inr 0, .inl x] M (quC M (q_of s.1.1 6 x)) := by
  refine xMetI.of (ty := .int) (L := [some (.inr 0), some (.inl x)]) fX3_hits rfl rfl (Nat.le_of_ble_eq_true rfl) (fun G hN hO hR => ?_)
  have hN : G.2.2.2.2.2.2.2.2.2.2.1 = 2 := hN
  have hO : xOK U G RX3 cX3_hits 2 := hO
  rw [← q_ofs h (k := 23) rfl (by decide) x] at hR
  refine x_aload_n hO dX3_hits_0 rfl rfl ?_
  refine x_getR (T := TX3) (j := 0) hO dX3_hits_1 flX3_10 (by decide) rfl rfl (by decide) rfl rfl ?_
  refine x_aload_n hO dX3_hits_4 rfl rfl ?_
  refine x_getR (T := TX3) (j := 0) hO dX3_hits_5 flX3_10 (by decide) rfl rfl (by decide) rfl rfl ?_
  refine x_getNR (T := TX1) (j := 6) hO dX3_hits_8 flX3_156 (by decide) rfl rfl (by decide) rfl rfl ?_
  refine x_aload_n hO dX3_hits_11 rfl rfl ?_
  refine x_getR (T := TX3) (j := 0) hO dX3_hits_12 flX3_10 (by decide) rfl rfl (by decide) rfl rfl ?_
  refine x_iload_n hO dX3_hits_15 rfl rfl ?_
  refine x_iconst (v := nI 0) hO dX3_hits_16 rfl ?_
  refine x_callV1 hO (k_slotHolding U M x (nI 0)) dX3_hits_17 lkX3_150 fX1_slotHolding vX1_slotHolding (by decide) rfl rfl rfl rfl rfl (by decide) (Nat.le_of_ble_eq_true rfl) ?_
  rw [h.rows] at *
  refine x_callV1 hO (k_told U M (k := 23) (by decide) rfl _) dX3_hits_20 lkX3_99 fX1_told vX1_told (by decide) rfl rfl rfl rfl rfl (by decide) (Nat.le_of_ble_eq_true rfl) ?_
  rw [h.rows]
  refine x_iret hO hR dX3_hits_23 rfl ?_
  exact ⟨rfl, rfl⟩
theorem kc_find (U : xP) (M : xM) {s : aO} (h : RC M s) (x : Int32) : xMetI U mX3_find [.inr 0, .inl x] M (quC M (q_find s.1.1 x)) := by
  refine xMetI.of (ty := .int) (L := [some (.inr 0), some (.inl x), none]) fX3_find rfl rfl (Nat.le_of_ble_eq_true rfl) (fun G hN hO hR => ?_)
  have hN : G.2.2.2.2.2.2.2.2.2.2.1 = 3 := hN
  have hO : xOK U G RX3 cX3_find 2 := hO
  unfold q_find at hR
  refine x_iload_n hO dX3_find_0 rfl rfl ?_
  refine x_callS1 hO (k_isKey U M x) dX3_find_1 lkX3_37 fX3_isKey sX3_isKey rfl rfl (by decide) (Nat.le_of_ble_eq_true rfl) ?_
  refine x_if_ne (tgt := 10) hO dX3_find_4 (by decide) (fun c => ?_) (fun c => ?_)
  · rw [bI_1 c, if_pos rfl] at hR
    refine x_aload_n hO dX3_find_10 rfl rfl ?_
    refine x_getR (T := TX3) (j := 0) hO dX3_find_11 flX3_10 (by decide) rfl rfl (by decide) rfl rfl ?_
    refine x_iload_n hO dX3_find_14 rfl rfl ?_
    refine x_callV1 hO (k_slotFoundBy U M x) dX3_find_15 lkX3_88 fX1_slotFoundBy vX1_slotFoundBy (by decide) rfl rfl rfl rfl rfl (by decide) (Nat.le_of_ble_eq_true rfl) ?_
    rw [h.rows]
    refine x_istore_n (n := 3) hO dX3_find_18 rfl rfl (by decide) hN ?_
    refine x_iload_n hO dX3_find_19 rfl rfl ?_
    refine x_iconst (v := (-1 : Int32)) hO dX3_find_20 rfl ?_
    refine x_icmp_ne (tgt := 29) hO dX3_find_21 (by decide) (fun c2 => ?_) (fun c2 => ?_)
    · have q : aFd s.1.1 x < 32 := by
        rcases Nat.lt_or_ge (aFd s.1.1 x) 32 with q | q
        · exact q
        · exact absurd (aN_ge (by omega)) c2
      have ho := aFd_oc q
      rw [if_pos q] at hR
      rw [aN_lt q]
      generalize aFd s.1.1 x = f at *
      refine x_aload_n hO dX3_find_29 rfl rfl ?_
      refine x_getR (T := TX3) (j := 0) hO dX3_find_30 flX3_10 (by decide) rfl rfl (by decide) rfl rfl ?_
      refine x_aload_n hO dX3_find_33 rfl rfl ?_
      refine x_getR (T := TX3) (j := 0) hO dX3_find_34 flX3_10 (by decide) rfl rfl (by decide) rfl rfl ?_
      refine x_getNR (T := TX1) (j := 0) hO dX3_find_37 flX3_138 (by decide) rfl rfl (by decide) rfl rfl ?_
      refine x_iload_n hO dX3_find_40 rfl rfl ?_
      refine x_callV1 hO (k_told U M (k := 17) (by decide) rfl (nI f)) dX3_find_41 lkX3_99 fX1_told vX1_told (by decide) rfl rfl rfl rfl rfl (by decide) (Nat.le_of_ble_eq_true rfl) ?_
      have e : M 17 f = s.1.1 f 0 := by
        rw [← h.rows] at ho ⊢
        exact cA_in (w := 0) ho (by decide)
      rw [ixB_n q (by decide), nI_clamp (by omega), h.rows, ho, if_pos rfl, if_pos rfl, e]
      refine x_iret hO hR dX3_find_44 rfl ?_
      exact ⟨rfl, rfl⟩
    · rw [if_neg (aN_m1.mp c2)] at hR
      refine x_bipush (v := (-4 : Int32)) hO dX3_find_24 rfl ?_
      refine x_goto (tgt := 44) hO dX3_find_26 (by decide) ?_
      refine x_iret hO hR dX3_find_44 rfl ?_
      exact ⟨rfl, rfl⟩
  · rw [bI_0 c] at hR
    refine x_bipush (v := (-2 : Int32)) hO dX3_find_7 rfl ?_
    refine x_iret hO hR dX3_find_9 rfl ?_
    exact ⟨rfl, rfl⟩
theorem kc_power (U : xP) (M : xM) {s : aO} (h : RC M s) (x : Int32) : xMetI U mX3_power [.inr 0, .inl x] M (quC M (q_power s.1.1 x)) := by
  refine xMetI.of (ty := .int) (L := [some (.inr 0), some (.inl x)]) fX3_power rfl rfl (Nat.le_of_ble_eq_true rfl) (fun G hN hO hR => ?_)
  have hN : G.2.2.2.2.2.2.2.2.2.2.1 = 2 := hN
  have hO : xOK U G RX3 cX3_power 5 := hO
  unfold q_power at hR
  refine x_iload_n hO dX3_power_0 rfl rfl ?_
  refine x_callS1 hO (k_isKey U M x) dX3_power_1 lkX3_37 fX3_isKey sX3_isKey rfl rfl (by decide) (Nat.le_of_ble_eq_true rfl) ?_
  refine x_if_eq (tgt := 18) hO dX3_power_4 (by decide) (fun c => ?_) (fun c => ?_)
  · rw [bI_0 c] at hR
    refine x_bipush (v := (-2 : Int32)) hO dX3_power_18 rfl ?_
    refine x_iret hO hR dX3_power_20 rfl ?_
    exact ⟨rfl, rfl⟩
  · rw [bI_1 c] at hR
    refine x_aload_n hO dX3_power_7 rfl rfl ?_
    refine x_getR (T := TX3) (j := 0) hO dX3_power_8 flX3_10 (by decide) rfl rfl (by decide) rfl rfl ?_
    refine x_iload_n hO dX3_power_11 rfl rfl ?_
    refine x_callV1 hO (k_powerFor U M x) dX3_power_12 lkX3_159 fX1_powerFor vX1_powerFor (by decide) rfl rfl rfl rfl rfl (by decide) (Nat.le_of_ble_eq_true rfl) ?_
    rw [h.rows]
    refine x_goto (tgt := 20) hO dX3_power_15 (by decide) ?_
    refine x_iret hO hR dX3_power_20 rfl ?_
    exact ⟨rfl, rfl⟩
theorem kc_filterMask (U : xP) (M : xM) {s : aO} (h : RC M s) (x : Int32) : xMetI U mX3_filterMask [.inr 0, .inl x] M (quC M (q_fm s.1.1 x)) := by
  refine xMetI.of (ty := .int) (L := [some (.inr 0), some (.inl x)]) fX3_filterMask rfl rfl (Nat.le_of_ble_eq_true rfl) (fun G hN hO hR => ?_)
  have hN : G.2.2.2.2.2.2.2.2.2.2.1 = 2 := hN
  have hO : xOK U G RX3 cX3_filterMask 3 := hO
  unfold q_fm at hR
  refine x_iload_n hO dX3_filterMask_0 rfl rfl ?_
  refine x_callS1 hO (k_isBank U M x) dX3_filterMask_1 lkX3_162 fX3_isBank sX3_isBank rfl rfl (by decide) (Nat.le_of_ble_eq_true rfl) ?_
  refine x_if_eq (tgt := 18) hO dX3_filterMask_4 (by decide) (fun c => ?_) (fun c => ?_)
  · rw [bI_0 c] at hR
    refine x_iconst (v := (-1 : Int32)) hO dX3_filterMask_18 rfl ?_
    refine x_iret hO hR dX3_filterMask_19 rfl ?_
    exact ⟨rfl, rfl⟩
  · rw [bI_1 c, if_pos rfl] at hR
    obtain ⟨ex, hx⟩ := ixB_c (by decide) (bI_1 c)
    generalize x.toNatClampNeg = b at *
    subst ex
    refine x_aload_n hO dX3_filterMask_7 rfl rfl ?_
    refine x_getR (T := TX3) (j := 0) hO dX3_filterMask_8 flX3_10 (by decide) rfl rfl (by decide) rfl rfl ?_
    refine x_iload_n hO dX3_filterMask_11 rfl rfl ?_
    refine x_callV1 hO (k_commonMask U M hx) dX3_filterMask_12 lkX3_165 fX1_commonMask vX1_commonMask (by decide) rfl rfl rfl rfl rfl (by decide) (Nat.le_of_ble_eq_true rfl) ?_
    rw [h.rows]
    refine x_goto (tgt := 19) hO dX3_filterMask_15 (by decide) ?_
    refine x_iret hO hR dX3_filterMask_19 rfl ?_
    exact ⟨rfl, rfl⟩
theorem kc_filterValue (U : xP) (M : xM) {s : aO} (h : RC M s) (x : Int32) : xMetI U mX3_filterValue [.inr 0, .inl x] M (quC M (q_fv s.1.1 x)) := by
  refine xMetI.of (ty := .int) (L := [some (.inr 0), some (.inl x)]) fX3_filterValue rfl rfl (Nat.le_of_ble_eq_true rfl) (fun G hN hO hR => ?_)
  have hN : G.2.2.2.2.2.2.2.2.2.2.1 = 2 := hN
  have hO : xOK U G RX3 cX3_filterValue 4 := hO
  unfold q_fv at hR
  refine x_iload_n hO dX3_filterValue_0 rfl rfl ?_
  refine x_callS1 hO (k_isBank U M x) dX3_filterValue_1 lkX3_162 fX3_isBank sX3_isBank rfl rfl (by decide) (Nat.le_of_ble_eq_true rfl) ?_
  refine x_if_eq (tgt := 18) hO dX3_filterValue_4 (by decide) (fun c => ?_) (fun c => ?_)
  · rw [bI_0 c] at hR
    refine x_iconst (v := (-1 : Int32)) hO dX3_filterValue_18 rfl ?_
    refine x_iret hO hR dX3_filterValue_19 rfl ?_
    exact ⟨rfl, rfl⟩
  · rw [bI_1 c, if_pos rfl] at hR
    obtain ⟨ex, hx⟩ := ixB_c (by decide) (bI_1 c)
    generalize x.toNatClampNeg = b at *
    subst ex
    refine x_aload_n hO dX3_filterValue_7 rfl rfl ?_
    refine x_getR (T := TX3) (j := 0) hO dX3_filterValue_8 flX3_10 (by decide) rfl rfl (by decide) rfl rfl ?_
    refine x_iload_n hO dX3_filterValue_11 rfl rfl ?_
    refine x_callV1 hO (k_commonValue U M hx) dX3_filterValue_12 lkX3_168 fX1_commonValue vX1_commonValue (by decide) rfl rfl rfl rfl rfl (by decide) (Nat.le_of_ble_eq_true rfl) ?_
    rw [h.rows]
    refine x_goto (tgt := 19) hO dX3_filterValue_15 (by decide) ?_
    refine x_iret hO hR dX3_filterValue_19 rfl ?_
    exact ⟨rfl, rfl⟩
theorem kc_hiddenBy (U : xP) (M : xM) {s : aO} (h : RC M s) (x : Int32) : xMetI U mX3_hiddenBy [.inr 0, .inl x] M (quC M (q_hid s.1.1 x)) := by
  refine xMetI.of (ty := .int) (L := [some (.inr 0), some (.inl x), none]) fX3_hiddenBy rfl rfl (Nat.le_of_ble_eq_true rfl) (fun G hN hO hR => ?_)
  have hN : G.2.2.2.2.2.2.2.2.2.2.1 = 3 := hN
  have hO : xOK U G RX3 cX3_hiddenBy 2 := hO
  unfold q_hid at hR
  refine x_iload_n hO dX3_hiddenBy_0 rfl rfl ?_
  refine x_callS1 hO (k_isSlot U M x) dX3_hiddenBy_1 lkX3_171 fX3_isSlot sX3_isSlot rfl rfl (by decide) (Nat.le_of_ble_eq_true rfl) ?_
  refine x_if_ne (tgt := 9) hO dX3_hiddenBy_4 (by decide) (fun c => ?_) (fun c => ?_)
  · rw [bI_1 c, if_pos rfl] at hR
    obtain ⟨ex, hx⟩ := ixB_c (by decide) (bI_1 c)
    generalize x.toNatClampNeg = b at *
    subst ex
    refine x_aload_n hO dX3_hiddenBy_9 rfl rfl ?_
    refine x_getR (T := TX3) (j := 0) hO dX3_hiddenBy_10 flX3_10 (by decide) rfl rfl (by decide) rfl rfl ?_
    refine x_iload_n hO dX3_hiddenBy_13 rfl rfl ?_
    refine x_callV1 hO (k_slotHiding U M hx) dX3_hiddenBy_14 lkX3_174 fX1_slotHiding vX1_slotHiding (by decide) rfl rfl rfl rfl rfl (by decide) (Nat.le_of_ble_eq_true rfl) ?_
    rw [h.rows]
    by_cases q : aoc s.1.1 b = true
    · rw [if_pos q] at hR ⊢
      generalize aHid s.1.1 b = v at *
      refine x_istore_n (n := 3) hO dX3_hiddenBy_17 rfl rfl (by decide) hN ?_
      refine x_iload_n hO dX3_hiddenBy_18 rfl rfl ?_
      refine x_iconst (v := (-1 : Int32)) hO dX3_hiddenBy_19 rfl ?_
      refine x_icmp_ne (tgt := 28) hO dX3_hiddenBy_20 (by decide) (fun c2 => ?_) (fun c2 => ?_)
      · rw [if_neg c2] at hR
        refine x_iload_n hO dX3_hiddenBy_28 rfl rfl ?_
        refine x_iret hO hR dX3_hiddenBy_29 rfl ?_
        exact ⟨rfl, rfl⟩
      · rw [if_pos c2] at hR
        refine x_bipush (v := (-4 : Int32)) hO dX3_hiddenBy_23 rfl ?_
        refine x_goto (tgt := 29) hO dX3_hiddenBy_25 (by decide) ?_
        refine x_iret hO hR dX3_hiddenBy_29 rfl ?_
        exact ⟨rfl, rfl⟩
    · rw [if_neg q] at hR ⊢
      refine x_istore_n (n := 3) hO dX3_hiddenBy_17 rfl rfl (by decide) hN ?_
      refine x_iload_n hO dX3_hiddenBy_18 rfl rfl ?_
      refine x_iconst (v := (-1 : Int32)) hO dX3_hiddenBy_19 rfl ?_
      refine x_icmp_ne (tgt := 28) hO dX3_hiddenBy_20 (by decide) (fun c2 => ?_) (fun c2 => ?_)
      · exact absurd rfl c2
      · refine x_bipush (v := (-4 : Int32)) hO dX3_hiddenBy_23 rfl ?_
        refine x_goto (tgt := 29) hO dX3_hiddenBy_25 (by decide) ?_
        refine x_iret hO hR dX3_hiddenBy_29 rfl ?_
        exact ⟨rfl, rfl⟩
  · rw [bI_0 c] at hR
    refine x_iconst (v := (-1 : Int32)) hO dX3_hiddenBy_7 rfl ?_
    refine x_iret hO hR dX3_hiddenBy_8 rfl ?_
    exact ⟨rfl, rfl⟩
theorem kc_keysFor (U : xP) (M : xM) {s : aO} (h : RC M s) (x : Int32) : xMetI U mX3_keysFor [.inr 0, .inl x] M (quC M (q_keys s.1.1 x)) := by
  refine xMetI.of (ty := .int) (L := [some (.inr 0), some (.inl x)]) fX3_keysFor rfl rfl (Nat.le_of_ble_eq_true rfl) (fun G hN hO hR => ?_)
  have hN : G.2.2.2.2.2.2.2.2.2.2.1 = 2 := hN
  have hO : xOK U G RX3 cX3_keysFor 3 := hO
  unfold q_keys at hR
  refine x_iload_n hO dX3_keysFor_0 rfl rfl ?_
  refine x_callS1 hO (k_isSlot U M x) dX3_keysFor_1 lkX3_171 fX3_isSlot sX3_isSlot rfl rfl (by decide) (Nat.le_of_ble_eq_true rfl) ?_
  refine x_if_eq (tgt := 18) hO dX3_keysFor_4 (by decide) (fun c => ?_) (fun c => ?_)
  · rw [bI_0 c] at hR
    refine x_iconst (v := (-1 : Int32)) hO dX3_keysFor_18 rfl ?_
    refine x_iret hO hR dX3_keysFor_19 rfl ?_
    exact ⟨rfl, rfl⟩
  · rw [bI_1 c] at hR
    refine x_aload_n hO dX3_keysFor_7 rfl rfl ?_
    refine x_getR (T := TX3) (j := 0) hO dX3_keysFor_8 flX3_10 (by decide) rfl rfl (by decide) rfl rfl ?_
    refine x_iload_n hO dX3_keysFor_11 rfl rfl ?_
    refine x_callV1 hO (k_keysFinding U M x) dX3_keysFor_12 lkX3_177 fX1_keysFinding vX1_keysFinding (by decide) rfl rfl rfl rfl rfl (by decide) (Nat.le_of_ble_eq_true rfl) ?_
    rw [h.rows]
    refine x_goto (tgt := 19) hO dX3_keysFor_15 (by decide) ?_
    refine x_iret hO hR dX3_keysFor_19 rfl ?_
    exact ⟨rfl, rfl⟩
theorem kc_wouldMove (U : xP) (M : xM) {s : aO} (h : RC M s) (x : Int32) : xMetI U mX3_wouldMove [.inr 0, .inl x] M (quC M (q_wm s.1.1 x)) := by
  refine xMetI.of (ty := .int) (L := [some (.inr 0), some (.inl x)]) fX3_wouldMove rfl rfl (Nat.le_of_ble_eq_true rfl) (fun G hN hO hR => ?_)
  have hN : G.2.2.2.2.2.2.2.2.2.2.1 = 2 := hN
  have hO : xOK U G RX3 cX3_wouldMove 4 := hO
  unfold q_wm at hR
  have hle := aCnt_le s.1.1
  refine x_iload_n hO dX3_wouldMove_0 rfl rfl ?_
  refine x_callS1 hO (k_isRank U M x) dX3_wouldMove_1 lkX3_41 fX3_isRank sX3_isRank rfl rfl (by decide) (Nat.le_of_ble_eq_true rfl) ?_
  refine x_if_ne (tgt := 10) hO dX3_wouldMove_4 (by decide) (fun c => ?_) (fun c => ?_)
  · rw [bI_1 c, if_pos rfl] at hR
    refine x_aload_n hO dX3_wouldMove_10 rfl rfl ?_
    refine x_getR (T := TX3) (j := 0) hO dX3_wouldMove_11 flX3_10 (by decide) rfl rfl (by decide) rfl rfl ?_
    refine x_callV1 hO (k_freeSlots U M) dX3_wouldMove_14 lkX3_47 fX1_freeSlots vX1_freeSlots (by decide) rfl rfl rfl rfl rfl (by decide) (Nat.le_of_ble_eq_true rfl) ?_
    rw [h.rows]
    refine x_if_ne (tgt := 25) hO dX3_wouldMove_17 (by decide) (fun c2 => ?_) (fun c2 => ?_)
    · rw [if_neg (fun z => c2 (by rw [z]; rfl))] at hR
      refine x_aload_n hO dX3_wouldMove_25 rfl rfl ?_
      refine x_getR (T := TX3) (j := 0) hO dX3_wouldMove_26 flX3_10 (by decide) rfl rfl (by decide) rfl rfl ?_
      refine x_iload_n hO dX3_wouldMove_29 rfl rfl ?_
      refine x_callV1 hO (k_movesFor U M x) dX3_wouldMove_30 lkX3_180 fX1_movesFor vX1_movesFor (by decide) rfl rfl rfl rfl rfl (by decide) (Nat.le_of_ble_eq_true rfl) ?_
      rw [h.rows]
      refine x_iret hO hR dX3_wouldMove_33 rfl ?_
      exact ⟨rfl, rfl⟩
    · rw [if_pos (by have := (nI_eq (b := 0) (by omega) (by decide)).mp c2; omega)] at hR
      refine x_bipush (v := (-3 : Int32)) hO dX3_wouldMove_20 rfl ?_
      refine x_goto (tgt := 33) hO dX3_wouldMove_22 (by decide) ?_
      refine x_iret hO hR dX3_wouldMove_33 rfl ?_
      exact ⟨rfl, rfl⟩
  · rw [bI_0 c] at hR
    refine x_bipush (v := (-2 : Int32)) hO dX3_wouldMove_7 rfl ?_
    refine x_iret hO hR dX3_wouldMove_9 rfl ?_
    exact ⟨rfl, rfl⟩
theorem kc_entriesFor (U : xP) (M : xM) (x y : Int32) : xMetI U mX3_entriesFor [.inr 0, .inl x, .inl y] M (quC M (q_ef x y)) := by
  refine xMetI.of (ty := .int) (L := [some (.inr 0), some (.inl x), some (.inl y)]) fX3_entriesFor rfl rfl (Nat.le_of_ble_eq_true rfl) (fun G hN hO hR => ?_)
  have hN : G.2.2.2.2.2.2.2.2.2.2.1 = 3 := hN
  have hO : xOK U G RX3 cX3_entriesFor 2 := hO
  unfold q_ef at hR
  refine x_iload_n hO dX3_entriesFor_0 rfl rfl ?_
  refine x_iload_n hO dX3_entriesFor_1 rfl rfl ?_
  refine x_callS1 hO (k_isRange U M x y) dX3_entriesFor_2 lkX3_59 fX3_isRange sX3_isRange rfl rfl (by decide) (Nat.le_of_ble_eq_true rfl) ?_
  refine x_if_eq (tgt := 16) hO dX3_entriesFor_5 (by decide) (fun c => ?_) (fun c => ?_)
  · rw [bI_0 c] at hR
    refine x_bipush (v := (-2 : Int32)) hO dX3_entriesFor_16 rfl ?_
    refine x_iret hO hR dX3_entriesFor_18 rfl ?_
    exact ⟨rfl, rfl⟩
  · rw [bI_1 c, if_pos rfl] at hR
    obtain ⟨ex, ey, lx, ly, -⟩ := rgB_c (bI_1 c)
    generalize x.toNatClampNeg = f at *
    generalize y.toNatClampNeg = g at *
    subst ex
    subst ey
    refine x_iload_n hO dX3_entriesFor_8 rfl rfl ?_
    refine x_iload_n hO dX3_entriesFor_9 rfl rfl ?_
    refine x_callS1 hO (k_blocksOf U M lx ly) dX3_entriesFor_10 lkX3_63 fX3_blocksOf sX3_blocksOf rfl rfl (by decide) (Nat.le_of_ble_eq_true rfl) ?_
    refine x_goto (tgt := 18) hO dX3_entriesFor_13 (by decide) ?_
    refine x_iret hO hR dX3_entriesFor_18 rfl ?_
    exact ⟨rfl, rfl⟩
