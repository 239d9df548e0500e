/-! ===== the law's seen, refuses, cell (printed by gen/mk39.py) ===== -/
theorem l_seen (U : xP) (M : xM) {s : aO} (h : RC M s) : xMetL U mL_seen [.inr 0] M (fun r M' => r = sv s.1 ∧ M' = M) := by
  refine xMetL.of (L := [some (.inr 0), none, none, none, none]) fL_seen rfl rfl (Nat.le_of_ble_eq_true rfl) (fun G hN hO hR => ?_)
  have hN : G.2.2.2.2.2.2.2.2.2.2.1 = 5 := hN
  have hO : xOK U G RL cL_seen 5 := hO
  refine XW.ofY ?_
  show YW U G 0 [(0, .ref (xad U 0))] [] M
  refine y_ldc2 (v := (97 : Int64)) hO (xg_r (i := 363) (by decide +kernel) rfl) dL_seen_0 ?_
  refine y_lstore_n (lv' := [(1, .long (97)), (0, .ref (xad U 0))]) hO hN dL_seen_3 rfl (by decide) rfl ?_
  refine y_iconst (v := nI 0) hO dL_seen_4 rfl ?_
  refine y_istore_n (lv' := [(3, .int (nI 0)), (1, .long (97)), (0, .ref (xad U 0))]) hO hN dL_seen_5 rfl (by decide) rfl ?_
  have j33 : YW U G 33 [(3, .int (nI 0)), (1, .long (sv2 s.1 0)), (0, .ref (xad U 0))] [] M := by
    refine upd_ind (P := fun i _ => YW U G 33 [(3, .int (nI i)), (1, .long (sv2 s.1 i)), (0, .ref (xad U 0))] [] M) 32 ?_ ?_ 32 0 rfl
    · refine id ?_
      refine y_iload_n (n := 0) hO dL_seen_33 rfl rfl ?_
      refine y_bipush (v := nI 32) hO dL_seen_34 rfl ?_
      refine y_icmp_ge (tgt := 128) hO dL_seen_36 (by decide) (fun _ => ?_) (fun c => absurd (Int32.le_refl _) c)
      refine y_lload_n (n := 1) hO dL_seen_128 rfl rfl ?_
      exact y_lret hO hR dL_seen_129 ⟨rfl, rfl⟩
    · intro i d hd ih
      have hi : i < 32 := by omega
      refine y_iload_n (n := 0) hO dL_seen_33 rfl rfl ?_
      refine y_bipush (v := nI 32) hO dL_seen_34 rfl ?_
      refine y_icmp_ge (tgt := 128) hO dL_seen_36 (by decide) (fun c => absurd c (nI_ge hi (by decide))) (fun _ => ?_)
      refine y_aload_n (n := 2) hO dL_seen_39 rfl rfl ?_
      refine y_iload_n (n := 0) hO dL_seen_40 rfl rfl ?_
      refine y_callV1 hO (kc_ruleIn U M h (nI i)) dL_seen_41 lkL_19 fX3_ruleIn vX3_ruleIn (by decide) rfl rfl rfl rfl rfl (by decide) (Nat.le_of_ble_eq_true rfl) ?_
      refine y_istore (lv' := [(4, .int (q_in s.1.1 0 (nI i))), (3, .int (nI i)), (1, .long (sv2 s.1 i)), (0, .ref (xad U 0))]) hO hN dL_seen_44 (by decide) rfl ?_
      refine y_ldc2 (v := (31 : Int64)) hO (xg_r (i := 364) (by decide +kernel) rfl) dL_seen_46 ?_
      refine y_ldc2 (v := (31 : Int64)) hO (xg_r (i := 364) (by decide +kernel) rfl) dL_seen_49 ?_
      refine y_ldc2 (v := (31 : Int64)) hO (xg_r (i := 364) (by decide +kernel) rfl) dL_seen_52 ?_
      refine y_lload_n (n := 2) hO dL_seen_55 rfl rfl ?_
      refine y_lmul hO dL_seen_56 ?_
      refine y_iload (n := 0) hO dL_seen_57 rfl ?_
      refine y_i2l hO dL_seen_59 ?_
      refine y_ladd hO dL_seen_60 ?_
      refine y_lmul hO dL_seen_61 ?_
      refine y_aload_n (n := 3) hO dL_seen_62 rfl rfl ?_
      refine y_iload_n (n := 1) hO dL_seen_63 rfl rfl ?_
      refine y_callV1 hO (kc_maskIn U M h (nI i)) dL_seen_64 lkL_22 fX3_maskIn vX3_maskIn (by decide) rfl rfl rfl rfl rfl (by decide) (Nat.le_of_ble_eq_true rfl) ?_
      refine y_i2l hO dL_seen_67 ?_
      refine y_ladd hO dL_seen_68 ?_
      refine y_lmul hO dL_seen_69 ?_
      refine y_aload_n (n := 3) hO dL_seen_70 rfl rfl ?_
      refine y_iload_n (n := 1) hO dL_seen_71 rfl rfl ?_
      refine y_callV1 hO (kc_valueIn U M h (nI i)) dL_seen_72 lkL_25 fX3_valueIn vX3_valueIn (by decide) rfl rfl rfl rfl rfl (by decide) (Nat.le_of_ble_eq_true rfl) ?_
      refine y_i2l hO dL_seen_75 ?_
      refine y_ladd hO dL_seen_76 ?_
      refine y_lstore_n (lv' := [(1, .long ((31) * ((31) * ((31) * (sv2 s.1 i) + ((q_in s.1.1 0 (nI i)).toInt64)) + ((q_in s.1.1 2 (nI i)).toInt64)) + ((q_in s.1.1 3 (nI i)).toInt64))), (4, .int (q_in s.1.1 0 (nI i))), (3, .int (nI i)), (0, .ref (xad U 0))]) hO hN dL_seen_77 rfl (by decide) rfl ?_
      refine y_ldc2 (v := (31 : Int64)) hO (xg_r (i := 364) (by decide +kernel) rfl) dL_seen_78 ?_
      refine y_lload_n (n := 0) hO dL_seen_81 rfl rfl ?_
      refine y_lmul hO dL_seen_82 ?_
      refine y_iload (n := 1) hO dL_seen_83 rfl ?_
      have j119 : YW U G 119 [(1, .long ((31) * ((31) * ((31) * (sv2 s.1 i) + ((q_in s.1.1 0 (nI i)).toInt64)) + ((q_in s.1.1 2 (nI i)).toInt64)) + ((q_in s.1.1 3 (nI i)).toInt64))), (4, .int (q_in s.1.1 0 (nI i))), (3, .int (nI i)), (0, .ref (xad U 0))] [.int (svR s.1.1 i), .long ((31) * ((31) * ((31) * ((31) * (sv2 s.1 i) + ((q_in s.1.1 0 (nI i)).toInt64)) + ((q_in s.1.1 2 (nI i)).toInt64)) + ((q_in s.1.1 3 (nI i)).toInt64)))] M := by
        refine y_i2l hO dL_seen_119 ?_
        refine y_ladd hO dL_seen_120 ?_
        refine y_lstore_n (lv' := [(1, .long ((31) * ((31) * ((31) * ((31) * (sv2 s.1 i) + ((q_in s.1.1 0 (nI i)).toInt64)) + ((q_in s.1.1 2 (nI i)).toInt64)) + ((q_in s.1.1 3 (nI i)).toInt64)) + ((svR s.1.1 i).toInt64))), (4, .int (q_in s.1.1 0 (nI i))), (3, .int (nI i)), (0, .ref (xad U 0))]) hO hN dL_seen_121 rfl (by decide) rfl ?_
        refine y_iinc (k := 2) (v := nI (i + 1)) (lv' := [(3, .int (nI (i + 1))), (1, .long ((31) * ((31) * ((31) * ((31) * (sv2 s.1 i) + ((q_in s.1.1 0 (nI i)).toInt64)) + ((q_in s.1.1 2 (nI i)).toInt64)) + ((q_in s.1.1 3 (nI i)).toInt64)) + ((svR s.1.1 i).toInt64))), (4, .int (q_in s.1.1 0 (nI i))), (0, .ref (xad U 0))]) hO hN dL_seen_122 rfl (xinc_n _) (by decide) rfl ?_
        refine y_goto (tgt := 33) hO dL_seen_125 (by decide) ?_
        refine YW.sub (lv' := [(3, .int (nI (i + 1))), (1, .long ((31) * ((31) * ((31) * ((31) * (sv2 s.1 i) + ((q_in s.1.1 0 (nI i)).toInt64)) + ((q_in s.1.1 2 (nI i)).toInt64)) + ((q_in s.1.1 3 (nI i)).toInt64)) + ((svR s.1.1 i).toInt64))), (0, .ref (xad U 0))]) [0, 1, 3] rfl ?_
        exact ih
      have eR : svR s.1.1 i = if q_in s.1.1 0 (nI i) < 0 then nI 0 else 100000 * q_of s.1.1 5 (q_in s.1.1 0 (nI i)) + nI 1000 * q_of s.1.1 4 (q_in s.1.1 0 (nI i)) + q_of s.1.1 6 (q_in s.1.1 0 (nI i)) := rfl
      refine y_if_ge (tgt := 92) hO dL_seen_85 (by decide) (fun cr => ?_) (fun cr => ?_)
      · rw [if_neg (Int32.not_lt.mpr cr)] at eR
        rw [eR] at j119
        refine y_ldc (v := (100000 : Int32)) hO (xg_r (i := 377) (by decide +kernel) rfl) dL_seen_92 ?_
        refine y_aload_n (n := 3) hO dL_seen_94 rfl rfl ?_
        refine y_iload (n := 1) hO dL_seen_95 rfl ?_
        refine y_callV1 hO (kc_action U M h (q_in s.1.1 0 (nI i))) dL_seen_97 lkL_29 fX3_action vX3_action (by decide) rfl rfl rfl rfl rfl (by decide) (Nat.le_of_ble_eq_true rfl) ?_
        refine y_imul hO dL_seen_100 ?_
        refine y_sipush (v := nI 1000) hO dL_seen_101 rfl ?_
        refine y_aload_n (n := 3) hO dL_seen_104 rfl rfl ?_
        refine y_iload (n := 1) hO dL_seen_105 rfl ?_
        refine y_callV1 hO (kc_rank U M h (q_in s.1.1 0 (nI i))) dL_seen_107 lkL_32 fX3_rank vX3_rank (by decide) rfl rfl rfl rfl rfl (by decide) (Nat.le_of_ble_eq_true rfl) ?_
        refine y_imul hO dL_seen_110 ?_
        refine y_iadd hO dL_seen_111 ?_
        refine y_aload_n (n := 3) hO dL_seen_112 rfl rfl ?_
        refine y_iload (n := 1) hO dL_seen_113 rfl ?_
        refine y_callV1 hO (kc_hits U M h (q_in s.1.1 0 (nI i))) dL_seen_115 lkL_35 fX3_hits vX3_hits (by decide) rfl rfl rfl rfl rfl (by decide) (Nat.le_of_ble_eq_true rfl) ?_
        refine y_iadd hO dL_seen_118 ?_
        exact j119
      · rw [if_pos (Int32.not_le.mp cr)] at eR
        rw [eR] at j119
        refine y_iconst (v := nI 0) hO dL_seen_88 rfl ?_
        refine y_goto (tgt := 119) hO dL_seen_89 (by decide) ?_
        exact j119
  refine upd_ind (P := fun w _ => YW U G 6 [(3, .int (nI w)), (1, .long (sv1 s.1 w)), (0, .ref (xad U 0))] [] M) 9 ?_ ?_ 9 0 rfl
  · refine id ?_
    refine y_iload_n (n := 0) hO dL_seen_6 rfl rfl ?_
    refine y_bipush (v := nI 9) hO dL_seen_7 rfl ?_
    refine y_icmp_ge (tgt := 31) hO dL_seen_9 (by decide) (fun _ => ?_) (fun c => absurd (Int32.le_refl _) c)
    refine y_iconst (v := nI 0) hO dL_seen_31 rfl ?_
    refine y_istore_n (lv' := [(3, .int (nI 0)), (1, .long (sv1 s.1 9)), (0, .ref (xad U 0))]) hO hN dL_seen_32 rfl (by decide) rfl ?_
    exact j33
  · intro w d hd ih
    refine y_iload_n (n := 0) hO dL_seen_6 rfl rfl ?_
    refine y_bipush (v := nI 9) hO dL_seen_7 rfl ?_
    refine y_icmp_ge (tgt := 31) hO dL_seen_9 (by decide) (fun c => absurd c (nI_ge (by omega) (by decide))) (fun _ => ?_)
    refine y_ldc2 (v := (31 : Int64)) hO (xg_r (i := 364) (by decide +kernel) rfl) dL_seen_12 ?_
    refine y_lload_n (n := 1) hO dL_seen_15 rfl rfl ?_
    refine y_lmul hO dL_seen_16 ?_
    refine y_aload_n (n := 2) hO dL_seen_17 rfl rfl ?_
    refine y_iload_n (n := 0) hO dL_seen_18 rfl rfl ?_
    refine y_callV1 hO (kc_total U M h (nI w)) dL_seen_19 lkL_13 fX3_total vX3_total (by decide) rfl rfl rfl rfl rfl (by decide) (Nat.le_of_ble_eq_true rfl) ?_
    rw [q_total_D s w (by omega)]
    refine y_i2l hO dL_seen_22 ?_
    refine y_ladd hO dL_seen_23 ?_
    refine y_lstore_n (lv' := [(1, .long ((31) * (sv1 s.1 w) + ((q_total (sD s.1) (nI w)).toInt64))), (3, .int (nI w)), (0, .ref (xad U 0))]) hO hN dL_seen_24 rfl (by decide) rfl ?_
    refine y_iinc (k := 1) (v := nI (w + 1)) (lv' := [(3, .int (nI (w + 1))), (1, .long ((31) * (sv1 s.1 w) + ((q_total (sD s.1) (nI w)).toInt64))), (0, .ref (xad U 0))]) hO hN dL_seen_25 rfl (xinc_n _) (by decide) rfl ?_
    refine y_goto (tgt := 6) hO dL_seen_28 (by decide) ?_
    exact ih
theorem l_refuses (U : xP) (M : xM) {s : aO} (h : RC M s) {B : Nat} (g : Wg s.1 B) (hB : B < 1000000) {x : Nat} (hx : x < 2 ^ 31) : xMetI U mL_refuses [.inr 0, .inl (nI x)] M (fun r M' => r = nI 1 ∧ RC M' s) := by
  refine xMetI.of (ty := .boolean) (L := [some (.inr 0), some (.inl (nI x)), none, none, none]) fL_refuses rfl rfl (Nat.le_of_ble_eq_true rfl) (fun G hN hO hR => ?_)
  have hN : G.2.2.2.2.2.2.2.2.2.2.1 = 5 := hN
  have hO : xOK U G RL cL_refuses 8 := hO
  refine XW.ofY ?_
  show YW U G 0 [(0, .ref (xad U 0)), (1, .int (nI x))] [] M
  refine y_aload_n (n := 0) hO dL_refuses_0 rfl rfl ?_
  refine y_callL hO (l_seen U M h) dL_refuses_1 lkL_90 fL_seen sL_seen rfl rfl (by decide) (Nat.le_of_ble_eq_true rfl) ?_
  refine y_lstore_n (lv' := [(2, .long (sv s.1)), (0, .ref (xad U 0)), (1, .int (nI x))]) hO hN dL_refuses_4 rfl (by decide) rfl ?_
  refine y_aload_n (n := 1) hO dL_refuses_5 rfl rfl ?_
  refine y_bipush (v := nI 9) hO dL_refuses_6 rfl ?_
  refine y_callV1 hO (kc_total U M h (nI 9)) dL_refuses_8 lkL_13 fX3_total vX3_total (by decide) rfl rfl rfl rfl rfl (by decide) (Nat.le_of_ble_eq_true rfl) ?_
  refine y_istore (lv' := [(4, .int (q_total s (nI 9))), (2, .long (sv s.1)), (0, .ref (xad U 0)), (1, .int (nI x))]) hO hN dL_refuses_11 (by decide) rfl ?_
  refine y_aload_n (n := 2) hO dL_refuses_13 rfl rfl ?_
  refine y_iload_n (n := 3) hO dL_refuses_14 rfl rfl ?_
  refine y_callS hO (l_refusesAny U M h g hB hx) dL_refuses_15 lkL_94 fL_refusesAny sL_refusesAny rfl rfl (by decide) (Nat.le_of_ble_eq_true rfl) (fun r M1 p1 => ?_)
  obtain ⟨rfl, h1⟩ := p1
  refine y_if_eq (tgt := 45) hO dL_refuses_18 (by decide) (fun c => absurd c (nI_ne0 (by decide) (by decide))) (fun _ => ?_)
  refine y_aload_n (n := 2) hO dL_refuses_21 rfl rfl ?_
  refine y_callL hO (l_seen U M1 h1) dL_refuses_22 lkL_90 fL_seen sL_seen rfl rfl (by decide) (Nat.le_of_ble_eq_true rfl) ?_
  refine y_lload_n (n := 1) hO dL_refuses_25 rfl rfl ?_
  refine y_lcmp hO dL_refuses_26 ?_
  refine y_if_ne (tgt := 45) hO dL_refuses_27 (by decide) (fun c => absurd (rfl) c) (fun _ => ?_)
  refine y_aload_n (n := 2) hO dL_refuses_30 rfl rfl ?_
  refine y_bipush (v := nI 9) hO dL_refuses_31 rfl ?_
  refine y_callV1 hO (kc_total U M1 h1 (nI 9)) dL_refuses_33 lkL_13 fX3_total vX3_total (by decide) rfl rfl rfl rfl rfl (by decide) (Nat.le_of_ble_eq_true rfl) ?_
  refine y_iload (n := 0) hO dL_refuses_36 rfl ?_
  refine y_icmp_ne (tgt := 45) hO dL_refuses_38 (by decide) (fun c => absurd rfl c) (fun _ => ?_)
  refine y_iconst (v := nI 1) hO dL_refuses_41 rfl ?_
  refine y_goto (tgt := 46) hO dL_refuses_42 (by decide) ?_
  exact y_iret hO hR dL_refuses_46 rfl ⟨rfl, h1⟩
/-- cell answers a number that isn't below 0, and changes nothing -/
theorem l_cell (l : Launch) {b n k : Nat} {xs : Nat → Int32} (hn : n < 2 ^ 31) (hk : k < 2 ^ 31) : Met l mL_cell.1 (xws mL_cell) (xrm 0) (va_Pc [.ref b, .int (nI k)] (fun X => va_X b n xs X X.heap)) (va_Qi (fun r (_ : Unit) => ∃ j, j < 2 ^ 31 ∧ r = nI j) (fun _ _ => True) (fun _ => False)) 0 0 (fun _ => False) := by
  refine xMet_ofWF (cc := cL_cell) (maxL := 2) (ret := some .int) fL_cell.2.2.2.1 rfl ?_
  intro p e s m args below meth c s₁ B hml hv
  obtain ⟨rfl, hX⟩ := hv
  have hx := B.exec
  have hb : c.code = cL_cell := B.bytes
  have hts := atoms_spec (ws := xws mL_cell) B.pre
  have hown : s.vm.findClass RL = some m.cls := findClass_of_methodNamed B.named
  have hbl : b < s.heap.size := by
    obtain ⟨scr, h1, -⟩ := hX
    exact (Array.getElem?_eq_some_iff.mp h1).1
  have hS : va_S (fun _ => False) s.heap s.heap [] := va_S.rf
  have hl := lv_entry ([.ref b, .int (nI k)]) (n := 2) (Nat.le_of_ble_eq_true rfl)
  rw [lg_entry_eq]
  generalize (lg_sl ([.ref b, .int (nI k)]) ++ List.replicate (2 - (lg_sl ([.ref b, .int (nI k)])).length) Slot.unset).toArray = ls at hl ⊢
  have hl : lv_has ls 2 [(0, .ref b), (1, .int (nI k))] := hl
  have j23 : ∀ x : Int32, W p l e (headSpec (xws mL_cell) (xrm 0)).room s m (([.ref b, .int (nI k)] : List Value).toArray) below meth c s.heap [] 0 0 (MQ below (va_Qi (fun r (_ : Unit) => ∃ j, j < 2 ^ 31 ∧ r = nI j) (fun _ _ => True) (fun _ => False)) (([.ref b, .int (nI k)] : List Value).toArray) s 0 0 (fun _ => False)) (F0 m 23 ls [.int x]) := by
    intro x
    refine lv_ldc (v := (2147483647 : Int32)) hx hb hown (hts _ (List.mem_cons_of_mem _ (xg_r (i := 359) (by decide +kernel) rfl))) dL_cell_23 ?_
    refine lv_iand hx hb dL_cell_25 ?_
    obtain ⟨j, hj, ej⟩ := pk_andE x (m := (2147483647 : Int32)) 31 (by decide)
    refine W.zret (ty := .int) hx hb B.returns rfl (fun t ht hW => ⟨⟨_, (), rfl, ⟨j, hj, ej⟩, trivial⟩, hS.F ht⟩) hS.2.2 dL_cell_26 B.notSynchronized
  refine lv_iload_n hx hb dL_cell_0 rfl (lv_at hl 1 rfl) ?_
  refine lv_aload_n hx hb dL_cell_1 rfl (lv_at hl 0 rfl) ?_
  refine va_slen hx hb hX hbl (fun h => h) hS dL_cell_2 ?_
  refine lv_icmp_ge (tgt := 12) hx hb dL_cell_3 (by decide) (fun _ => ?_) (fun cl => ?_)
  · refine lv_ldc (v := (374761393 : Int32)) hx hb hown (hts _ (List.mem_cons_of_mem _ (xg_r (i := 358) (by decide +kernel) rfl))) dL_cell_12 ?_
    refine lv_iload_n hx hb dL_cell_14 rfl (lv_at hl 1 rfl) ?_
    refine lv_bipush (v := nI 17) hx hb dL_cell_15 rfl ?_
    refine lv_iadd hx hb dL_cell_17 ?_
    refine lv_imul hx hb dL_cell_18 ?_
    refine lv_sipush (v := nI 2311) hx hb dL_cell_19 rfl ?_
    refine lv_iadd hx hb dL_cell_22 ?_
    exact j23 _
  · have hlt : k < n := (nI_ltI hk hn).mp (Int32.not_le.mp cl)
    refine lv_aload_n hx hb dL_cell_6 rfl (lv_at hl 0 rfl) ?_
    refine lv_iload_n hx hb dL_cell_7 rfl (lv_at hl 1 rfl) ?_
    refine va_sld hx hb hX hbl (fun h => h) hS (vp_in_nI hlt hn) dL_cell_8 ?_
    refine lv_goto (tgt := 23) hx hb dL_cell_9 (by decide) ?_
    exact j23 _
