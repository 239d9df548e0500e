/-! ===== the fresh object ===== -/
def s0 : aO := ((fun _ => eR, fun _ => 0), none, [], (0, fun _ => -1))
def M0 : xM := fun k j => if k = 17 ∨ k = 25 ∨ k = 33 ∨ k = 41 ∨ k = 49 ∨ k = 57 then iniF 32 j else 0
theorem M0_RC : RC M0 s0 := by
  refine ⟨?_, Or.inl ⟨rfl, rfl⟩, ⟨0, 0, by decide, by decide, rfl, rfl, rfl⟩, 0, by decide, rfl, ?_⟩
  · show (cA M0 16, sc (M0 16)) = (fun _ => eR, fun _ => 0)
    congr 1
    · refine cA_ext (fun t ht => cA_free ?_) (fun _ _ => rfl)
      show iniF 32 t = -1
      exact if_pos ht
    · funext j
      unfold sc
      split <;> rfl
  · show (0, fun _ => (-1 : Int32)) = _
    congr 1
theorem s0_oc (t : Nat) : aoc s0.1.1 t = false := aoc_eR (A := s0.1.1) rfl
theorem s0_wg : Wg s0.1 0 := by
  have no : ∀ {t : Nat} {P : Prop}, aoc s0.1.1 t = true → P := fun {t} _ h => by
    rw [s0_oc] at h
    cases h
  exact ⟨⟨0, Nat.le_refl _, rfl, fun _ _ _ ht => no ht, fun _ _ => rfl, fun _ _ => rfl, fun _ ht => no ht, fun _ _ ht => no ht⟩, ⟨fun _ _ _ ht => no ht, fun _ ht => no ht, fun _ _ ht => no ht, fun _ ht => no ht⟩, 0, by decide, rfl⟩
theorem s0_cnt : aCnt s0.1.1 = 0 := nC_0.mpr (fun i _ => s0_oc i)
theorem s0_fd (x : Int32) : aFd s0.1.1 x = 32 := nF_eq (Nat.zero_le _) (Nat.le_refl _) (fun j _ _ => by
  unfold pKey
  rw [s0_oc]
  rfl) (fun h => by omega)
theorem s0_keys : aKs s0.1.1 (-1) 256 = 256 := nC_full (fun i _ => by
  rw [s0_fd]
  rfl)
theorem s0_out (n : Nat) : nC (pOut s0.1.1 n) 32 = 0 := nC_0.mpr (fun i _ => by
  unfold pOut
  rw [s0_oc]
  rfl)
theorem s0_tx : tx s0.2.2.2.2 s0.2.2.2.1 5 0 0 = (false, 0, 0) := by decide +kernel
theorem s0_addText : o_addText s0 = (-100, s0) := by
  unfold o_addText
  rw [s0_tx]
  rfl
theorem s0_search : o_search s0 (nI 0) = (-4, s0) := by
  rw [o_search_at s0 (by decide), if_neg (by rw [s0_fd]; decide)]
theorem xL_pre {U : xP} {G : xG} (hN : G.2.2.2.2.2.2.2.2.2.2.1 = 15) (hO : xOK U G RL cL_law 9) {n : Nat} {xs : Nat → Int32} (hX : xSc U G n xs) (hn : n < 2 ^ 31) (fin : ∀ L M, YW U G 426 L [.int (nI 1)] M) {M : xM} (h : RC M s0) : YW U G 8 [(1, .ref (xad U 0)), (0, .ref (xad U 64))] [] M := by
  refine y_aload_n (n := 0) hO dL_law_8 rfl rfl ?_
  refine y_callV hO (poC_no (kc_undo U M h) (show o_undo s0 = (-4, s0) from rfl)) dL_law_9 lkL_120 fX3_undo vX3_undo (by decide) rfl rfl rfl rfl rfl (by decide) (Nat.le_of_ble_eq_true rfl) (fun r M p1 => ?_)
  obtain ⟨rfl, h⟩ := p1
  refine y_bipush (v := (-4 : Int32)) hO dL_law_12 rfl ?_
  refine y_icmp_ne (tgt := 110) hO dL_law_14 (by decide) (fun c => absurd rfl c) (fun _ => ?_)
  refine y_aload_n (n := 0) hO dL_law_17 rfl rfl ?_
  refine y_callV hO (poC_no (kc_restore U M h) (show o_restore s0 = (-4, s0) from rfl)) dL_law_18 lkL_123 fX3_restore vX3_restore (by decide) rfl rfl rfl rfl rfl (by decide) (Nat.le_of_ble_eq_true rfl) (fun r M p1 => ?_)
  obtain ⟨rfl, h⟩ := p1
  refine y_bipush (v := (-4 : Int32)) hO dL_law_21 rfl ?_
  refine y_icmp_ne (tgt := 110) hO dL_law_23 (by decide) (fun c => absurd rfl c) (fun _ => ?_)
  refine y_aload_n (n := 0) hO dL_law_26 rfl rfl ?_
  refine y_iconst (v := nI 0) hO dL_law_27 rfl ?_
  refine y_callV1 hO (kc_total U M h (nI 0)) dL_law_28 lkL_13 fX3_total vX3_total (by decide) rfl rfl rfl rfl rfl (by decide) (Nat.le_of_ble_eq_true rfl) ?_
  rw [q_total_0, s0_cnt]
  refine y_if_ne (tgt := 110) hO dL_law_31 (by decide) (fun c => absurd (rfl) c) (fun _ => ?_)
  refine y_aload_n (n := 0) hO dL_law_34 rfl rfl ?_
  refine y_bipush (v := nI 8) hO dL_law_35 rfl ?_
  refine y_callV1 hO (kc_total U M h (nI 8)) dL_law_37 lkL_13 fX3_total vX3_total (by decide) rfl rfl rfl rfl rfl (by decide) (Nat.le_of_ble_eq_true rfl) ?_
  rw [q_total_8, s0_keys]
  refine y_sipush (v := nI 256) hO dL_law_40 rfl ?_
  refine y_icmp_ne (tgt := 110) hO dL_law_43 (by decide) (fun c => absurd rfl c) (fun _ => ?_)
  refine y_aload_n (n := 0) hO dL_law_46 rfl rfl ?_
  refine y_callV hO (poC_no (kc_compact U M h) (o_re_none (s0_out 32))) dL_law_47 lkL_102 fX3_compact vX3_compact (by decide) rfl rfl rfl rfl rfl (by decide) (Nat.le_of_ble_eq_true rfl) (fun r M p1 => ?_)
  obtain ⟨rfl, h⟩ := p1
  refine y_bipush (v := (-4 : Int32)) hO dL_law_50 rfl ?_
  refine y_icmp_ne (tgt := 110) hO dL_law_52 (by decide) (fun c => absurd rfl c) (fun _ => ?_)
  refine y_aload_n (n := 0) hO dL_law_55 rfl rfl ?_
  refine y_callV hO (poC_no (kc_spread U M h) (o_re_none (s0_out _))) dL_law_56 lkL_98 fX3_spread vX3_spread (by decide) rfl rfl rfl rfl rfl (by decide) (Nat.le_of_ble_eq_true rfl) (fun r M p1 => ?_)
  obtain ⟨rfl, h⟩ := p1
  refine y_bipush (v := (-4 : Int32)) hO dL_law_59 rfl ?_
  refine y_icmp_ne (tgt := 110) hO dL_law_61 (by decide) (fun c => absurd rfl c) (fun _ => ?_)
  refine y_aload_n (n := 0) hO dL_law_64 rfl rfl ?_
  refine y_callV hO (poC_no (kc_addText U M h (a := 0) rfl (by decide)) (s0_addText)) dL_law_65 lkL_126 fX3_addText vX3_addText (by decide) rfl rfl rfl rfl rfl (by decide) (Nat.le_of_ble_eq_true rfl) (fun r M p1 => ?_)
  obtain ⟨rfl, h⟩ := p1
  refine y_bipush (v := (-100 : Int32)) hO dL_law_68 rfl ?_
  refine y_icmp_ne (tgt := 110) hO dL_law_70 (by decide) (fun c => absurd rfl c) (fun _ => ?_)
  refine y_aload_n (n := 0) hO dL_law_73 rfl rfl ?_
  refine y_iconst (v := nI 0) hO dL_law_74 rfl ?_
  refine y_callV hO (poC_no (kc_search U M h (nI 0)) (s0_search)) dL_law_75 lkL_69 fX3_search vX3_search (by decide) rfl rfl rfl rfl rfl (by decide) (Nat.le_of_ble_eq_true rfl) (fun r M p1 => ?_)
  obtain ⟨rfl, h⟩ := p1
  refine y_bipush (v := (-4 : Int32)) hO dL_law_78 rfl ?_
  refine y_icmp_ne (tgt := 110) hO dL_law_80 (by decide) (fun c => absurd rfl c) (fun _ => ?_)
  refine y_aload_n (n := 0) hO dL_law_83 rfl rfl ?_
  refine y_iconst (v := nI 0) hO dL_law_84 rfl ?_
  refine y_callS hO (l_refuses U M h s0_wg (by decide) (x := 0) (by decide)) dL_law_85 lkL_129 fL_refuses sL_refuses rfl rfl (by decide) (Nat.le_of_ble_eq_true rfl) (fun r M p1 => ?_)
  obtain ⟨rfl, h⟩ := p1
  refine y_if_eq (tgt := 110) hO dL_law_88 (by decide) (fun c => absurd c (nI_ne0 (by decide) (by decide))) (fun _ => ?_)
  refine y_aload_n (n := 0) hO dL_law_91 rfl rfl ?_
  refine y_iconst (v := nI 1) hO dL_law_92 rfl ?_
  refine y_callS hO (l_refuses U M h s0_wg (by decide) (x := 1) (by decide)) dL_law_93 lkL_129 fL_refuses sL_refuses rfl rfl (by decide) (Nat.le_of_ble_eq_true rfl) (fun r M p1 => ?_)
  obtain ⟨rfl, h⟩ := p1
  refine y_if_eq (tgt := 110) hO dL_law_96 (by decide) (fun c => absurd c (nI_ne0 (by decide) (by decide))) (fun _ => ?_)
  refine y_aload_n (n := 0) hO dL_law_99 rfl rfl ?_
  refine y_callV hO (kc_keep U M h) dL_law_100 lkL_132 fX3_keep vX3_keep (by decide) rfl rfl rfl rfl rfl (by decide) (Nat.le_of_ble_eq_true rfl) (fun r M p1 => ?_)
  obtain ⟨rfl, h, -⟩ := p1
  rw [show o_keep s0 = (nI 0, (s0.1, some s0.1, s0.2.2.1, s0.2.2.2)) by unfold o_keep; rw [s0_cnt]] at h ⊢
  refine y_if_ne (tgt := 110) hO dL_law_103 (by decide) (fun c => absurd (rfl) c) (fun _ => ?_)
  refine y_iconst (v := nI 1) hO dL_law_106 rfl ?_
  refine y_goto (tgt := 111) hO dL_law_107 (by decide) ?_
  refine y_istore_n (lv' := [(2, .int (nI 1)), (1, .ref (xad U 0)), (0, .ref (xad U 64))]) hO hN dL_law_111 rfl (by decide) rfl ?_
  refine y_aload_n (n := 1) hO dL_law_112 rfl rfl ?_
  refine y_callL hO (l_seen U M h) dL_law_113 lkL_90 fL_seen sL_seen rfl rfl (by decide) (Nat.le_of_ble_eq_true rfl) ?_
  refine y_lstore_n (lv' := [(3, .long (sv s0.1)), (2, .int (nI 1)), (1, .ref (xad U 0)), (0, .ref (xad U 64))]) hO hN dL_law_116 rfl (by decide) rfl ?_
  refine y_iconst (v := nI 0) hO dL_law_117 rfl ?_
  refine y_istore (lv' := [(5, .int (nI 0)), (3, .long (sv s0.1)), (2, .int (nI 1)), (1, .ref (xad U 0)), (0, .ref (xad U 64))]) hO hN dL_law_118 (by decide) rfl ?_
  refine YW.sub (lv' := [(5, .int (nI 0)), (3, .long (sv s0.1)), (2, .int (nI 1)), (1, .ref (xad U 0)), (0, .ref (xad U 64))]) [0, 1, 2, 3, 4] rfl ?_
  exact xL_loop hN hO hX hn fin 48 0 rfl _ s0.1 M h s0_wg rfl
