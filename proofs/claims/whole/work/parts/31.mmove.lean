/-- the reference's memory now has the rows A' and the numbers g', and nothing else has changed -/
def mSm (M M' : xM) (A' : aR) (g' : Nat → Int32) : Prop := nA M' = A' ∧ (∀ j, j < 5 → M' 10 (224 + j) = g' j) ∧ ∀ k, k ≠ 10 → M' k = M k
/-- its numbers -/
def nG (M : xM) : Nat → Int32 := fun j => if j < 5 then M 10 (224 + j) else 0
theorem nG_at (M : xM) {j : Nat} (h : j < 5) : nG M j = M 10 (224 + j) := if_pos h
theorem mSm.rf (M : xM) : mSm M M (nA M) (nG M) := ⟨rfl, fun j h => (nG_at M h).symm, fun _ _ => rfl⟩
theorem mSm.tr {M M1 M2 : xM} {A1 A2 : aR} {g1 g2 : Nat → Int32} (h1 : mSm M M1 A1 g1) (h2 : mSm M1 M2 A2 g2) : mSm M M2 A2 g2 := ⟨h2.1, h2.2.1, fun k hk => by rw [h2.2.2 k hk, h1.2.2 k hk]⟩
theorem mSm.g {M M' : xM} {A' : aR} {g' : Nat → Int32} (h : mSm M M' A' g') {j : Nat} (hj : j < 5) : nG M' j = g' j := by rw [nG_at _ hj, h.2.1 j hj]
theorem mSm.gc {M M' : xM} {A' : aR} {g' g'' : Nat → Int32} (h : mSm M M' A' g') (e : ∀ j, j < 5 → g' j = g'' j) : mSm M M' A' g'' := ⟨h.1, fun j hj => by rw [h.2.1 j hj, e j hj], h.2.2⟩
/-- the rows stay where no row's cell is written -/
theorem nA_keep {M M' : xM} (h : ∀ t, t < 224 → M' 10 t = M 10 t) : nA M' = nA M := mA_ext (fun s hs => mA_row hs hs (fun w hw => h _ (by omega))) (fun s hs => mA_ge hs)
theorem mSm.num {M : xM} {j : Nat} (hj : j < 5) (x : Int32) : mSm M (xset M 10 (224 + j) x) (nA M) (upd (nG M) j x) := by
  refine ⟨nA_keep (fun t ht => ?_), fun i hi => ?_, fun k hk => xset_ne _ _ _ hk⟩
  · rw [xset_at, if_pos rfl, if_neg (by omega)]
  · rw [xset_at, if_pos rfl, upd_at]
    by_cases e : i = j
    · subst e
      simp
    · rw [if_neg (by omega), if_neg e, nG_at M hi]
/-! ===== copyEntry, put, clearSlot ===== -/
def cpE (M : xM) (i j k : Nat) : xM := fun c t => if c = 10 ∧ 7 * j ≤ t ∧ t < 7 * j + k then M 10 (7 * i + (t - 7 * j)) else M c t
theorem cpE_s {M : xM} {i j k : Nat} : xset (cpE M i j k) 10 (7 * j + k) (M 10 (7 * i + k)) = cpE M i j (k + 1) := by
  funext c t
  rw [xset_at]
  unfold cpE
  by_cases hc : c = 10
  · subst hc
    by_cases ht : t = 7 * j + k
    · rw [if_pos rfl, if_pos ht, if_pos (by omega)]
      congr 1
      omega
    · rw [if_pos rfl, if_neg ht]
      by_cases h2 : 7 * j ≤ t ∧ t < 7 * j + k
      · rw [if_pos ⟨rfl, h2⟩, if_pos (by omega)]
      · rw [if_neg (fun z => h2 z.2), if_neg (by omega)]
  · rw [if_neg hc, if_neg (fun z => hc z.1), if_neg (fun z => hc z.1)]
theorem cpE_rd {M : xM} {i j k : Nat} (hij : i ≠ j) (hk : k < 7) : cpE M i j k 10 (7 * i + k) = M 10 (7 * i + k) := by
  unfold cpE
  rw [if_neg (by omega)]
theorem m_copyEntry (U : xP) (M : xM) {i j : Nat} (hi : i < 32) (hj : j < 32) (hij : i ≠ j) : xMetV U mX4_copyEntry [.inr 9, .inl (nI i), .inl (nI j)] M (fun M' => mSm M M' (fun s => if s = j then nA M i else nA M s) (nG M)) := by
  refine xMetV.of (L := [some (.inr 9), some (.inl (nI i)), some (.inl (nI j)), none]) fX4_copyEntry rfl rfl (Nat.le_of_ble_eq_true rfl) (fun G hN hO hR => ?_)
  have hN : G.2.2.2.2.2.2.2.2.2.2.1 = 4 := hN
  have hO : xOK U G RX4 cX4_copyEntry 0 := hO
  refine x_iconst (v := nI 0) hO dX4_copyEntry_0 rfl ?_
  refine x_istore_n (n := 4) hO dX4_copyEntry_1 rfl rfl (by decide) hN ?_
  have e0 : cpE M i j 0 = M := by funext c t; unfold cpE; rw [if_neg (by omega)]
  have h0 := upd_ind (P := fun k _ => XW U G 2 [some (.inr 9), some (.inl (nI i)), some (.inl (nI j)), some (.inl (nI k))] [] (cpE M i j k)) 7 ?_ ?_ 7 0 rfl
  · rw [e0] at h0
    exact h0
  · refine x_iload_n hO dX4_copyEntry_2 rfl rfl ?_
    refine x_bipush (v := nI 7) hO dX4_copyEntry_3 rfl ?_
    refine x_icmp_ge (tgt := 36) hO dX4_copyEntry_5 (by decide) (fun c => ?_) (fun c => ?_)
    · refine x_vret hO hR dX4_copyEntry_36 ?_
      refine ⟨mA_ext (fun s hs => ?_) (fun s hs => ?_), fun t ht => ?_, fun k hk => ?_⟩
      · split
        · rename_i e
          subst e
          refine mA_row hs hi (fun w hw => ?_)
          unfold cpE
          rw [if_pos (by omega)]
          congr 1
          omega
        · rename_i e
          refine mA_row hs hs (fun w hw => ?_)
          unfold cpE
          rw [if_neg (by omega)]
      · rw [if_neg (by omega)]
        exact mA_ge hs
      · unfold cpE
        rw [if_neg (by omega), nG_at M ht]
      · funext t
        unfold cpE
        rw [if_neg (fun z => hk z.1)]
    · exact absurd (Int32.le_refl _) c
  · intro k d hd ih
    refine x_iload_n hO dX4_copyEntry_2 rfl rfl ?_
    refine x_bipush (v := nI 7) hO dX4_copyEntry_3 rfl ?_
    refine x_icmp_ge (tgt := 36) hO dX4_copyEntry_5 (by decide) (fun c => ?_) (fun c => ?_)
    · exact absurd c (nI_ge (by omega) (by decide))
    · refine x_aload_n hO dX4_copyEntry_8 rfl rfl ?_
      refine x_getR (T := TX4) (j := 0) hO dX4_copyEntry_9 flX4_7 (by decide) rfl rfl (by decide) rfl rfl ?_
      refine x_bipush (v := nI 7) hO dX4_copyEntry_12 rfl ?_
      refine x_iload_n hO dX4_copyEntry_14 rfl rfl ?_
      refine x_imul hO dX4_copyEntry_15 ?_
      rw [pk_mul]
      refine x_iload_n hO dX4_copyEntry_16 rfl rfl ?_
      refine x_iadd hO dX4_copyEntry_17 ?_
      rw [nI_add]
      refine x_aload_n hO dX4_copyEntry_18 rfl rfl ?_
      refine x_getR (T := TX4) (j := 0) hO dX4_copyEntry_19 flX4_7 (by decide) rfl rfl (by decide) rfl rfl ?_
      refine x_bipush (v := nI 7) hO dX4_copyEntry_22 rfl ?_
      refine x_iload_n hO dX4_copyEntry_24 rfl rfl ?_
      refine x_imul hO dX4_copyEntry_25 ?_
      rw [pk_mul]
      refine x_iload_n hO dX4_copyEntry_26 rfl rfl ?_
      refine x_iadd hO dX4_copyEntry_27 ?_
      rw [nI_add]
      have l1 : 7 * i + k < 229 := by omega
      have l2 : 7 * j + k < 229 := by omega
      refine x_iald hO (by decide) rfl (by decide) (rfl) (l1) dX4_copyEntry_28 ?_
      rw [cpE_rd hij (by omega)]
      refine x_iast hO (by decide) rfl (by decide) (rfl) (l2) dX4_copyEntry_29 ?_
      rw [cpE_s]
      refine x_iinc hO dX4_copyEntry_30 rfl (by first | exact xinc_n _ | rfl) rfl hN ?_
      refine x_goto (tgt := 2) hO dX4_copyEntry_33 (by decide) ?_
      exact ih
theorem i32_add1 {x : Int32} (h : x ≠ -1) : ¬ x + nI 1 = 0 := by
  intro z
  apply h
  have : x + nI 1 - 1 = 0 - 1 := by rw [z]
  have e : x + nI 1 - 1 = x := by show x + 1 - 1 = x; simp
  rw [e] at this
  rw [this]
  decide
theorem i32_as (x : Int32) : x + nI 1 - 1 = x := by show x + 1 - 1 = x; simp
theorem nI_z (n : Nat) : nI n + nI 0 = nI n := nI_add n 0
theorem m_put (U : xP) (M : xM) {j : Nat} (hj : j < 32) (r p m v k a v0 : Int32) (hr : r ≠ -1) (hv : v = v0 &&& m) : xMetV U mX4_put [.inr 9, .inl (nI j), .inl r, .inl p, .inl m, .inl v, .inl k, .inl a] M (fun M' => mSm M M' (fun s => if s = j then rowOf r p m v0 k a else nA M s) (nG M)) := by
  refine xMetV.of (L := [some (.inr 9), some (.inl (nI j)), some (.inl r), some (.inl p), some (.inl m), some (.inl v), some (.inl k), some (.inl a), none]) fX4_put rfl rfl (Nat.le_of_ble_eq_true rfl) (fun G hN hO hR => ?_)
  have hN : G.2.2.2.2.2.2.2.2.2.2.1 = 9 := hN
  have hO : xOK U G RX4 cX4_put 0 := hO
  refine x_bipush (v := nI 7) hO dX4_put_0 rfl ?_
  refine x_iload_n hO dX4_put_2 rfl rfl ?_
  refine x_imul hO dX4_put_3 ?_
  rw [pk_mul]
  have l0 : 7 * j + 0 < 229 := by omega
  have l1 : 7 * j + 1 < 229 := by omega
  have l2 : 7 * j + 2 < 229 := by omega
  have l3 : 7 * j + 3 < 229 := by omega
  have l4 : 7 * j + 4 < 229 := by omega
  have l5 : 7 * j + 5 < 229 := by omega
  have l6 : 7 * j + 6 < 229 := by omega
  refine x_istore (n := 9) hO dX4_put_4 rfl (by decide) hN ?_
  refine x_aload_n hO dX4_put_6 rfl rfl ?_
  refine x_getR (T := TX4) (j := 0) hO dX4_put_7 flX4_7 (by decide) rfl rfl (by decide) rfl rfl ?_
  refine x_iload hO dX4_put_10 rfl ?_
  refine x_iconst (v := nI 0) hO dX4_put_12 rfl ?_
  refine x_iadd hO dX4_put_13 ?_
  refine x_iload_n hO dX4_put_14 rfl rfl ?_
  refine x_iconst (v := nI 1) hO dX4_put_15 rfl ?_
  refine x_iadd hO dX4_put_16 ?_
  refine x_iast hO (by decide) rfl (by decide) (nI_add _ _) (l0) dX4_put_17 ?_
  refine x_aload_n hO dX4_put_18 rfl rfl ?_
  refine x_getR (T := TX4) (j := 0) hO dX4_put_19 flX4_7 (by decide) rfl rfl (by decide) rfl rfl ?_
  refine x_iload hO dX4_put_22 rfl ?_
  refine x_iconst (v := nI 1) hO dX4_put_24 rfl ?_
  refine x_iadd hO dX4_put_25 ?_
  refine x_iload_n hO dX4_put_26 rfl rfl ?_
  refine x_iast hO (by decide) rfl (by decide) (nI_add _ _) (l1) dX4_put_27 ?_
  refine x_aload_n hO dX4_put_28 rfl rfl ?_
  refine x_getR (T := TX4) (j := 0) hO dX4_put_29 flX4_7 (by decide) rfl rfl (by decide) rfl rfl ?_
  refine x_iload hO dX4_put_32 rfl ?_
  refine x_iconst (v := nI 2) hO dX4_put_34 rfl ?_
  refine x_iadd hO dX4_put_35 ?_
  refine x_iload hO dX4_put_36 rfl ?_
  refine x_iast hO (by decide) rfl (by decide) (nI_add _ _) (l2) dX4_put_38 ?_
  refine x_aload_n hO dX4_put_39 rfl rfl ?_
  refine x_getR (T := TX4) (j := 0) hO dX4_put_40 flX4_7 (by decide) rfl rfl (by decide) rfl rfl ?_
  refine x_iload hO dX4_put_43 rfl ?_
  refine x_iconst (v := nI 3) hO dX4_put_45 rfl ?_
  refine x_iadd hO dX4_put_46 ?_
  refine x_iload hO dX4_put_47 rfl ?_
  refine x_iast hO (by decide) rfl (by decide) (nI_add _ _) (l3) dX4_put_49 ?_
  refine x_aload_n hO dX4_put_50 rfl rfl ?_
  refine x_getR (T := TX4) (j := 0) hO dX4_put_51 flX4_7 (by decide) rfl rfl (by decide) rfl rfl ?_
  refine x_iload hO dX4_put_54 rfl ?_
  refine x_iconst (v := nI 4) hO dX4_put_56 rfl ?_
  refine x_iadd hO dX4_put_57 ?_
  refine x_iload hO dX4_put_58 rfl ?_
  refine x_iast hO (by decide) rfl (by decide) (nI_add _ _) (l4) dX4_put_60 ?_
  refine x_aload_n hO dX4_put_61 rfl rfl ?_
  refine x_getR (T := TX4) (j := 0) hO dX4_put_62 flX4_7 (by decide) rfl rfl (by decide) rfl rfl ?_
  refine x_iload hO dX4_put_65 rfl ?_
  refine x_iconst (v := nI 5) hO dX4_put_67 rfl ?_
  refine x_iadd hO dX4_put_68 ?_
  refine x_iload hO dX4_put_69 rfl ?_
  refine x_iast hO (by decide) rfl (by decide) (nI_add _ _) (l5) dX4_put_71 ?_
  refine x_aload_n hO dX4_put_72 rfl rfl ?_
  refine x_getR (T := TX4) (j := 0) hO dX4_put_73 flX4_7 (by decide) rfl rfl (by decide) rfl rfl ?_
  refine x_iload hO dX4_put_76 rfl ?_
  refine x_bipush (v := nI 6) hO dX4_put_78 rfl ?_
  refine x_iadd hO dX4_put_80 ?_
  refine x_iconst (v := nI 0) hO dX4_put_81 rfl ?_
  refine x_iast hO (by decide) rfl (by decide) (nI_add _ _) (l6) dX4_put_82 ?_
  refine x_vret hO hR dX4_put_83 ?_
  refine ⟨mA_ext (fun s hs => ?_) (fun s hs => ?_), fun t ht => ?_, fun k hk => ?_⟩
  · split
    · rename_i e
      subst e
      have hz := i32_add1 hr
      have hz2 : (r + nI 1 == 0) = false := by simpa using hz
      funext w
      unfold mA moc
      simp only [xset_at]
      match w with
      | 0 => simp [rowOf, hz, hs, i32_as]
      | 1 => simp [rowOf, hz, hs]
      | 2 => simp [rowOf, hz, hs]
      | 3 => simp [rowOf, hz, hs, hv]
      | 4 => simp [rowOf, hz, hs]
      | 5 => simp [rowOf, hz, hs]
      | w + 6 =>
        show _ = (0 : Int32)
        simp [hz, hs]
        rw [if_neg (by omega)]
        split <;> rfl
    · rename_i e
      refine mA_row hs hs (fun w hw => ?_)
      have n0 : ¬ 0 + 7 * s + w = 7 * j + 0 := by omega
      have n1 : ¬ 0 + 7 * s + w = 7 * j + 1 := by omega
      have n2 : ¬ 0 + 7 * s + w = 7 * j + 2 := by omega
      have n3 : ¬ 0 + 7 * s + w = 7 * j + 3 := by omega
      have n4 : ¬ 0 + 7 * s + w = 7 * j + 4 := by omega
      have n5 : ¬ 0 + 7 * s + w = 7 * j + 5 := by omega
      have n6 : ¬ 0 + 7 * s + w = 7 * j + 6 := by omega
      simp only [xset_at, n0, n1, n2, n3, n4, n5, n6, if_true, if_false]
  · rw [if_neg (by omega)]
    exact mA_ge hs
  · have n0 : ¬ 224 + t = 7 * j + 0 := by omega
    have n1 : ¬ 224 + t = 7 * j + 1 := by omega
    have n2 : ¬ 224 + t = 7 * j + 2 := by omega
    have n3 : ¬ 224 + t = 7 * j + 3 := by omega
    have n4 : ¬ 224 + t = 7 * j + 4 := by omega
    have n5 : ¬ 224 + t = 7 * j + 5 := by omega
    have n6 : ¬ 224 + t = 7 * j + 6 := by omega
    simp only [xset_at, n0, n1, n2, n3, n4, n5, n6, if_true, if_false]
    exact (nG_at M ht).symm
  · funext t
    simp only [xset_at, hk, if_false]
def clE (M : xM) (j k : Nat) : xM := fun c t => if c = 10 ∧ 7 * j ≤ t ∧ t < 7 * j + k then 0 else M c t
theorem clE_s {M : xM} {j k : Nat} : xset (clE M j k) 10 (7 * j + k) (nI 0) = clE M j (k + 1) := by
  funext c t
  rw [xset_at]
  unfold clE
  by_cases hc : c = 10
  · subst hc
    by_cases ht : t = 7 * j + k
    · rw [if_pos rfl, if_pos ht, if_pos (by omega)]
      rfl
    · rw [if_pos rfl, if_neg ht]
      by_cases h2 : 7 * j ≤ t ∧ t < 7 * j + k
      · rw [if_pos ⟨rfl, h2⟩, if_pos (by omega)]
      · rw [if_neg (fun z => h2 z.2), if_neg (by omega)]
  · rw [if_neg hc, if_neg (fun z => hc z.1), if_neg (fun z => hc z.1)]
theorem m_clearSlot (U : xP) (M : xM) {j : Nat} (hj : j < 32) : xMetV U mX4_clearSlot [.inr 9, .inl (nI j)] M (fun M' => mSm M M' (fun s => if s = j then eR else nA M s) (nG M)) := by
  refine xMetV.of (L := [some (.inr 9), some (.inl (nI j)), none]) fX4_clearSlot rfl rfl (Nat.le_of_ble_eq_true rfl) (fun G hN hO hR => ?_)
  have hN : G.2.2.2.2.2.2.2.2.2.2.1 = 3 := hN
  have hO : xOK U G RX4 cX4_clearSlot 0 := hO
  refine x_iconst (v := nI 0) hO dX4_clearSlot_0 rfl ?_
  refine x_istore_n (n := 3) hO dX4_clearSlot_1 rfl rfl (by decide) hN ?_
  have e0 : clE M j 0 = M := by funext c t; unfold clE; rw [if_neg (by omega)]
  have h0 := upd_ind (P := fun k _ => XW U G 2 [some (.inr 9), some (.inl (nI j)), some (.inl (nI k))] [] (clE M j k)) 7 ?_ ?_ 7 0 rfl
  · rw [e0] at h0
    exact h0
  · refine x_iload_n hO dX4_clearSlot_2 rfl rfl ?_
    refine x_bipush (v := nI 7) hO dX4_clearSlot_3 rfl ?_
    refine x_icmp_ge (tgt := 26) hO dX4_clearSlot_5 (by decide) (fun c => ?_) (fun c => ?_)
    · refine x_vret hO hR dX4_clearSlot_26 ?_
      refine ⟨mA_ext (fun s hs => ?_) (fun s hs => ?_), fun t ht => ?_, fun k hk => ?_⟩
      · split
        · rename_i e
          subst e
          refine mA_free ?_
          unfold clE
          rw [if_pos (by omega)]
        · rename_i e
          refine mA_row hs hs (fun w hw => ?_)
          unfold clE
          rw [if_neg (by omega)]
      · rw [if_neg (by omega)]
        exact mA_ge hs
      · unfold clE
        rw [if_neg (by omega), nG_at M ht]
      · funext t
        unfold clE
        rw [if_neg (fun z => hk z.1)]
    · exact absurd (Int32.le_refl _) c
  · intro k d hd ih
    refine x_iload_n hO dX4_clearSlot_2 rfl rfl ?_
    refine x_bipush (v := nI 7) hO dX4_clearSlot_3 rfl ?_
    refine x_icmp_ge (tgt := 26) hO dX4_clearSlot_5 (by decide) (fun c => ?_) (fun c => ?_)
    · exact absurd c (nI_ge (by omega) (by decide))
    · refine x_aload_n hO dX4_clearSlot_8 rfl rfl ?_
      refine x_getR (T := TX4) (j := 0) hO dX4_clearSlot_9 flX4_7 (by decide) rfl rfl (by decide) rfl rfl ?_
      refine x_bipush (v := nI 7) hO dX4_clearSlot_12 rfl ?_
      refine x_iload_n hO dX4_clearSlot_14 rfl rfl ?_
      refine x_imul hO dX4_clearSlot_15 ?_
      rw [pk_mul]
      have l2 : 7 * j + k < 229 := by omega
      refine x_iload_n hO dX4_clearSlot_16 rfl rfl ?_
      refine x_iadd hO dX4_clearSlot_17 ?_
      refine x_iconst (v := nI 0) hO dX4_clearSlot_18 rfl ?_
      refine x_iast hO (by decide) rfl (by decide) (nI_add _ _) (l2) dX4_clearSlot_19 ?_
      rw [clE_s]
      refine x_iinc hO dX4_clearSlot_20 rfl (by first | exact xinc_n _ | rfl) rfl hN ?_
      refine x_goto (tgt := 2) hO dX4_clearSlot_23 (by decide) ?_
      exact ih
/-! ===== moves, makeRoom ===== -/
def nm (k : Nat) : Int32 := (-1 : Int32) - nI k
theorem nm_neg : ∀ k, k < 40 → nm k < 0 ∧ ¬ 0 ≤ nm k := by decide +kernel
theorem nm_back : ∀ k, k < 40 → (-1 : Int32) - nm k = nI k := by decide +kernel
def mMv (A : aR) (x : Int32) : Int32 := if aP A x < aB A x then nI 0 else if aMu A (aB A x) ≤ aMd A (aP A x) then nI (aMu A (aB A x)) else nm (aMd A (aP A x))
/-- the ranks stand in their order -/
def srt (A : aR) : Prop := ∀ s t, s < t → aoc A s = true → aoc A t = true → A s 4 ≤ A t 4
theorem srt_pb {A : aR} (h : srt A) (hge : ∀ s, 32 ≤ s → aoc A s = false) (r : Int32) : aP A r ≤ aB A r := by
  rcases Nat.lt_or_ge (aB A r) (aP A r) with q | q
  · exfalso
    have hp := aP_le A r
    obtain ⟨j, hj⟩ : ∃ j, aP A r = j + 1 := ⟨aP A r - 1, by omega⟩
    have h1 := nL_yes (P := pUp A r) (n := 32) hj
    have h2 := nF_yes (P := pBy A r) 32 0 (by show aB A r < 0 + 32; omega)
    simp only [pUp, pBy, Bool.and_eq_true, decide_eq_true_eq] at h1 h2
    have h2 : aoc A (aB A r) = true ∧ r < A (aB A r) 4 := h2
    rcases Nat.lt_trichotomy (aB A r) j with z | z | z
    · have := h (aB A r) j z h2.1 h1.1
      exact Int32.lt_irrefl (Int32.lt_of_lt_of_le h2.2 (Int32.le_trans this h1.2))
    · rw [z] at h2
      exact Int32.lt_irrefl (Int32.lt_of_lt_of_le h2.2 h1.2)
    · omega
  · exact q
theorem nA_ge (M : xM) : ∀ s, 32 ≤ s → aoc (nA M) s = false := fun s hs => aoc_eR (mA_ge hs)
theorem m_moves (U : xP) (M : xM) (x : Int32) (hc : aCnt (nA M) < 32) (hs : srt (nA M)) : xMetI U mX4_moves [.inr 9, .inl x] M (fun r M' => r = mMv (nA M) x ∧ M' = M) := by
  refine xMetI.of (ty := .int) (L := [some (.inr 9), some (.inl x), none, none, none, none]) fX4_moves rfl rfl (Nat.le_of_ble_eq_true rfl) (fun G hN hO hR => ?_)
  have hN : G.2.2.2.2.2.2.2.2.2.2.1 = 6 := hN
  have hO : xOK U G RX4 cX4_moves 2 := hO
  have h1 := aP_le (nA M) x
  have h2 := aB_le (nA M) x
  have hpb := srt_pb hs (nA_ge M) x
  unfold mMv at hR
  refine x_aload_n hO dX4_moves_0 rfl rfl ?_
  refine x_iload_n hO dX4_moves_1 rfl rfl ?_
  refine x_callV1 hO (m_lastUpTo U M x) dX4_moves_2 lkX4_59 fX4_lastUpTo vX4_lastUpTo (by decide) rfl rfl rfl rfl rfl (by decide) (Nat.le_of_ble_eq_true rfl) ?_
  refine x_istore_n (n := 6) hO dX4_moves_5 rfl rfl (by decide) hN ?_
  refine x_aload_n hO dX4_moves_6 rfl rfl ?_
  refine x_iload_n hO dX4_moves_7 rfl rfl ?_
  refine x_callV1 hO (m_firstAbove U M x) dX4_moves_8 lkX4_63 fX4_firstAbove vX4_firstAbove (by decide) rfl rfl rfl rfl rfl (by decide) (Nat.le_of_ble_eq_true rfl) ?_
  refine x_istore_n (n := 6) hO dX4_moves_11 rfl rfl (by decide) hN ?_
  refine x_aload_n hO dX4_moves_12 rfl rfl ?_
  refine x_iload_n hO dX4_moves_13 rfl rfl ?_
  refine x_callV1 hO (m_freeBehind U M h1) dX4_moves_14 lkX4_66 fX4_freeBehind vX4_freeBehind (by decide) rfl rfl rfl rfl rfl (by decide) (Nat.le_of_ble_eq_true rfl) ?_
  refine x_istore (n := 6) hO dX4_moves_17 rfl (by decide) hN ?_
  refine x_aload_n hO dX4_moves_19 rfl rfl ?_
  refine x_iload_n hO dX4_moves_20 rfl rfl ?_
  refine x_callV1 hO (m_freeAhead U M h2) dX4_moves_21 lkX4_69 fX4_freeAhead vX4_freeAhead (by decide) rfl rfl rfl rfl rfl (by decide) (Nat.le_of_ble_eq_true rfl) ?_
  refine x_istore (n := 6) hO dX4_moves_24 rfl (by decide) hN ?_
  refine x_iload_n hO dX4_moves_26 rfl rfl ?_
  refine x_iload_n hO dX4_moves_27 rfl rfl ?_
  refine x_isub hO dX4_moves_28 ?_
  refine x_iconst (v := nI 1) hO dX4_moves_29 rfl ?_
  change XW U G _ _ [.inl (nI 1), .inl (nI (aB (nA M) x) - xm (aP (nA M) x))] M
  refine x_icmp_le (tgt := 35) hO dX4_moves_30 (by decide) (fun c => ?_) (fun c => ?_)
  · have q : aB (nA M) x = aP (nA M) x := by have := (xm_gap _ (by omega) _ (by omega)).mp c; omega
    rw [if_neg (by omega)] at hR
    have h3 := oM_free hc h1 (Nat.le_of_eq q)
    have u3 := aMu_33 (nA M) (aB (nA M) x)
    have d3 := aMd_33 (nA M) h1
    have eu : aMu (nA M) (aB (nA M) x) = if nF (pFr (nA M)) (aP (nA M) x) (32 - aP (nA M) x) < 32 then nF (pFr (nA M)) (aP (nA M) x) (32 - aP (nA M) x) - aP (nA M) x else 33 := by rw [q]; rfl
    have ed : aMd (nA M) (aP (nA M) x) = if nL (pFr (nA M)) (aB (nA M) x) = 0 then 33 else aP (nA M) x - nL (pFr (nA M)) (aB (nA M) x) := by rw [q]; rfl
    have ld := nF_le (P := pFr (nA M)) (32 - aP (nA M) x) (aP (nA M) x)
    have lu := nL_le (P := pFr (nA M)) (aB (nA M) x)
    generalize aMu (nA M) (aB (nA M) x) = mu at *
    generalize aMd (nA M) (aP (nA M) x) = md at *
    generalize nF (pFr (nA M)) (aP (nA M) x) (32 - aP (nA M) x) = d at *
    generalize nL (pFr (nA M)) (aB (nA M) x) = u at *
    generalize aP (nA M) x = p at *
    generalize aB (nA M) x = b at *
    subst q
    have up : mu ≤ md → d < 32 → XW U G 58 [some (.inr 9), some (.inl x), some (.inl (xm b)), some (.inl (nI b)), some (.inl (nI d)), some (.inl (xm u))] [] M := by
      intro z1 z2
      rw [if_pos z1] at hR
      rw [if_pos z2] at eu
      refine x_iload hO dX4_moves_58 rfl ?_
      refine x_iload_n hO dX4_moves_60 rfl rfl ?_
      refine x_isub hO dX4_moves_61 ?_
      rw [pk_sub (by omega), ← eu]
      refine x_goto (tgt := 71) hO dX4_moves_62 (by decide) ?_
      refine x_iret hO hR dX4_moves_71 rfl ?_
      exact ⟨rfl, rfl⟩
    have down : ¬ mu ≤ md → XW U G 65 [some (.inr 9), some (.inl x), some (.inl (xm b)), some (.inl (nI b)), some (.inl (nI d)), some (.inl (xm u))] [] M := by
      intro z1
      rw [if_neg z1] at hR
      have z2 : ¬ u = 0 := fun z => by rw [if_pos z] at ed; omega
      rw [if_neg z2] at ed
      refine x_iconst (v := (-1 : Int32)) hO dX4_moves_65 rfl ?_
      refine x_iload_n hO dX4_moves_66 rfl rfl ?_
      refine x_iload hO dX4_moves_67 rfl ?_
      refine x_isub hO dX4_moves_69 ?_
      rw [xm_sub (by omega) (by omega), ← ed]
      refine x_isub hO dX4_moves_70 ?_
      refine x_iret hO hR dX4_moves_71 rfl ?_
      exact ⟨rfl, rfl⟩
    refine x_iload hO dX4_moves_35 rfl ?_
    refine x_if_lt (tgt := 58) hO dX4_moves_37 (by decide) (fun c1 => ?_) (fun c1 => ?_)
    · have z : u = 0 := (xm_lt0 (by omega)).mp c1
      rw [if_pos z] at ed
      refine up (by omega) ?_
      rcases Nat.lt_or_ge d 32 with y | y
      · exact y
      · rw [if_neg (by omega)] at eu
        omega
    · have z : ¬ u = 0 := fun z => c1 ((xm_lt0 (by omega)).mpr z)
      rw [if_neg z] at ed
      refine x_iload hO dX4_moves_40 rfl ?_
      refine x_bipush (v := nI 32) hO dX4_moves_42 rfl ?_
      refine x_icmp_ge (tgt := 65) hO dX4_moves_44 (by decide) (fun c2 => ?_) (fun c2 => ?_)
      · have y : ¬ d < 32 := by have := (nI_leI (by omega) (by omega)).mp c2; omega
        rw [if_neg y] at eu
        exact down (by omega)
      · have y : d < 32 := by
          rcases Nat.lt_or_ge d 32 with y | y
          · exact y
          · exact absurd ((nI_leI (by omega) (by omega)).mpr y) c2
        have eu2 := eu
        rw [if_pos y] at eu2
        refine x_iload hO dX4_moves_47 rfl ?_
        refine x_iload_n hO dX4_moves_49 rfl rfl ?_
        refine x_isub hO dX4_moves_50 ?_
        rw [pk_sub (by omega)]
        refine x_iload_n hO dX4_moves_51 rfl rfl ?_
        refine x_iload hO dX4_moves_52 rfl ?_
        refine x_isub hO dX4_moves_54 ?_
        rw [xm_sub (by omega) (by omega), ← ed, ← eu2]
        refine x_icmp_gt (tgt := 65) hO dX4_moves_55 (by decide) (fun c3 => ?_) (fun c3 => ?_)
        · exact down (by have := (nI_ltI (by omega) (by omega)).mp c3; omega)
        · exact up (Nat.not_lt.mp (fun z => c3 ((nI_ltI (by omega) (by omega)).mpr z))) y
  · have q : aP (nA M) x < aB (nA M) x := by
      rcases Nat.lt_or_ge (aP (nA M) x) (aB (nA M) x) with q | q
      · exact q
      · exact absurd ((xm_gap _ (by omega) _ (by omega)).mpr q) c
    rw [if_pos q] at hR
    refine x_iconst (v := nI 0) hO dX4_moves_33 rfl ?_
    refine x_iret hO hR dX4_moves_34 rfl ?_
    exact ⟨rfl, rfl⟩
