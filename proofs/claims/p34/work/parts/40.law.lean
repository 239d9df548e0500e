/-! ===== the law's loop (printed by gen/mk40.py); its script is at the address 64 ===== -/
def xSc (U : xP) (G : xG) (n : Nat) (xs : Nat → Int32) : Prop := match G with
  | (p, e, R, s, m, args, below, meth, c, A0, nL, cs, sl, Q) => va_X (xad U 64) n xs s s.heap ∧ xad U 64 < s.heap.size ∧ ¬ A0 (xad U 64)
theorem y_cell {U : xP} {G : xG} {own : String} {cc : ByteArray} {K pc : Nat} {lv : List (Nat × Value)} {st rest : List Value} {M : xM} (hO : xOK U G own cc K) {n k index : Nat} {xs : Nat → Int32} (hX : xSc U G n xs) (hn : n < 2 ^ 31) (hk : k < 2 ^ 31) (hd : decode cc pc = .ok (.invokestatic index, 3)) (hlk : Cond.methodLink own index mL_cell.1 ∈ gw) (hst : st = .int (nI k) :: .ref (xad U 64) :: rest) (hlev : 0 < K) (hr : (rest.map fun v => v.category).sum ≤ 8) (kk : ∀ j : Nat, j < 2 ^ 31 → YW U G (pc + 3) lv (.int (nI j) :: rest) M) : YW U G pc lv st M := by
  obtain ⟨p, e, R, s, m, args, below, meth, c, A0, nL, cs, sl, Q⟩ := G
  intro H locs ls hP hS hL
  obtain ⟨o1, o2, o3, o4, o5, o6, o7, o8, o9, o10, o11, o12, o13⟩ := hO
  obtain ⟨x1, x2, x3⟩ := hX
  have cw : CallB R s args own index mL_cell.1 mL_cell.2.1 mL_cell.2.2.1 mL_cell.2.2.2.1 (xws mL_cell) (xrm 0) 0 0 2 ∧ (Cond.static mL_cell.1).before args s = true := ⟨callB_of 2 o5 (xws_good mL_cell fL_cell) rfl rfl rfl (o5 _ fL_cell.2.1) (o5 _ hlk) fL_cell.2.2.1 (x_room o10 o11 hlev fL_cell.2.2.2.2), o5 _ sL_cell⟩
  refine va_calli (va_runS (As := [.ref (xad U 64), .int (nI k)]) (rest := rest) ⟨o1, o2, o3, o4, o5⟩ (l_cell (xl U) (b := xad U 64) (n := n) (k := k) (xs := xs) hn hk) cw ⟨fun a X g mk q => ⟨q.1, va_X.moved (u := X) (U := X.calling g mk a) (Vm.Alike.refl X.vm) q.2⟩, fun X hX hW => ⟨rfl, by show va_X (xad U 64) n xs X X.heap; rw [hX]; exact (x1.kept (hS.2.1 _ x2 x3)).moved hW.alike⟩⟩ rfl rfl hL.1 (by subst hst; rfl) (lv_room hr) hd ⟨o12, o13⟩) hS (fun q _ h => h.elim) (fun q h => h.elim) (fun r u t H1 locs1 ht hvm hw hB hz1 hk1 hS1 => ?_)
  obtain ⟨j, hj, ej⟩ := hw
  rw [ej]
  exact kk j hj H1 locs1 ls (fun k' q hq => (hP k' q hq).kept (hk1 _ (hP k' q hq).lt (fun h => h))) hS1 hL
theorem RC.len {M : xM} {s : aO} (h : RC M s) : s.2.2.1.length ≤ 4 := by
  obtain ⟨-, -, ⟨o, c, h3, h4, h5, h6, h7⟩, -⟩ := h
  rw [h7]
  simpa using h4
theorem rec_len (s : aO) (y : aSt) : q_total (oCur (oRec s) y) (nI 9) = nI (min 4 (s.2.2.1.length + 1)) := by
  rw [q_total_9]
  show nI ((s.1 :: s.2.2.1).take 4).length = _
  rw [List.length_take]
  rfl
theorem undo_rec (s : aO) (y : aSt) : o_undo (oCur (oRec s) y) = (nI (min 3 s.2.2.1.length), (s.1, s.2.1, s.2.2.1.take 3, s.2.2.2)) := by
  show (nI (s.2.2.1.take 3).length, _) = _
  rw [List.length_take]
  rfl
theorem restore_some {s : aO} {x : aSt} (h : s.2.1 = some x) : o_restore s = (nI (aCnt x.1), oCur (oRec s) x) := by
  unfold o_restore
  rw [h]
theorem nI_m9 {r : Int32} (h : ¬ r < 0) : ¬ r ≤ (-9 : Int32) := fun z => h (Int32.lt_of_le_of_lt z (by decide))
theorem xL_loop {U : xP} {G : xG} (hN : G.2.2.2.2.2.2.2.2.2.2.1 = 15) (hO : xOK U G RL cL_law 9) {n : Nat} {xs : Nat → Int32} (hX : xSc U G n xs) (hn : n < 2 ^ 31) (fin : ∀ L M, YW U G 426 L [.int (nI 1)] M) : ∀ (d i : Nat), i + d = 48 → ∀ (s : aO) (x : aSt) (M : xM), RC M s → Wg s.1 i → s.2.1 = some x → YW U G 120 [(5, .int (nI i)), (3, .long (sv x)), (2, .int (nI 1)), (1, .ref (xad U 0)), (0, .ref (xad U 64))] [] M := by
  intro d
  induction d with
  | zero =>
    intro i hd s x M h g hs
    obtain rfl : i = 48 := by omega
    refine y_iload (n := 0) hO dL_law_120 rfl ?_
    refine y_bipush (v := nI 48) hO dL_law_122 rfl ?_
    refine y_icmp_ge (tgt := 425) hO dL_law_124 (by decide) (fun _ => ?_) (fun c => absurd (Int32.le_refl _) c)
    refine y_iload_n (n := 2) hO dL_law_425 rfl rfl ?_
    exact fin _ _
  | succ d ih =>
    intro i hd s x M h g hs
    have hi : i < 48 := by omega
    have hlen := h.len
    have j419 : ∀ (M : xM) (s : aO) (x : aSt), RC M s → Wg s.1 (i + 1) → s.2.1 = some x → YW U G 419 [(5, .int (nI i)), (3, .long (sv x)), (2, .int (nI 1)), (1, .ref (xad U 0)), (0, .ref (xad U 64))] [] M := by
      intro M s x h g hs
      refine y_iinc (k := 0) (v := nI (i + 1)) (lv' := [(5, .int (nI (i + 1))), (3, .long (sv x)), (2, .int (nI 1)), (1, .ref (xad U 0)), (0, .ref (xad U 64))]) hO hN dL_law_419 rfl (xinc_n _) (by decide) rfl ?_
      refine y_goto (tgt := 120) hO dL_law_422 (by decide) ?_
      exact ih (i + 1) (by omega) s x M h g hs
    have j336 : ∀ (M : xM) (s : aO), RC M s → Wg s.1 (i + 1) → s.2.1 = some x → YW U G 336 [(5, .int (nI i)), (3, .long (sv x)), (2, .int (nI 1)), (1, .ref (xad U 0)), (0, .ref (xad U 64))] [] M := by
      intro M s h g hs
      have hlen := h.len
      refine y_iload_n (n := 2) hO dL_law_336 rfl rfl ?_
      refine y_if_eq (tgt := 419) hO dL_law_337 (by decide) (fun c => absurd c (nI_ne0 (by decide) (by decide))) (fun _ => ?_)
      refine y_iload (n := 0) hO dL_law_340 rfl ?_
      refine y_bipush (v := nI 12) hO dL_law_342 rfl ?_
      refine y_iremN hO (by omega) (by decide) (by decide) dL_law_344 ?_
      refine y_bipush (v := nI 11) hO dL_law_345 rfl ?_
      refine y_icmp_ne (tgt := 419) hO dL_law_347 (by decide) (fun cb => ?_) (fun cb => ?_)
      · exact j419 M s x h g hs
      · refine id ?_
        refine y_aload_n (n := 3) hO dL_law_350 rfl rfl ?_
        refine y_iconst (v := nI 0) hO dL_law_351 rfl ?_
        refine y_callV1 hO (kc_total U M h (nI 0)) dL_law_352 lkL_13 fX3_total vX3_total (by decide) rfl rfl rfl rfl rfl (by decide) (Nat.le_of_ble_eq_true rfl) ?_
        refine y_istore (lv' := [(12, .int (q_total s (nI 0))), (5, .int (nI i)), (3, .long (sv x)), (2, .int (nI 1)), (1, .ref (xad U 0)), (0, .ref (xad U 64))]) hO hN dL_law_355 (by decide) rfl ?_
        refine y_aload_n (n := 4) hO dL_law_357 rfl rfl ?_
        refine y_callL hO (l_seen U M h) dL_law_358 lkL_90 fL_seen sL_seen rfl rfl (by decide) (Nat.le_of_ble_eq_true rfl) ?_
        refine y_lstore (lv' := [(13, .long (sv s.1)), (12, .int (q_total s (nI 0))), (5, .int (nI i)), (3, .long (sv x)), (2, .int (nI 1)), (1, .ref (xad U 0)), (0, .ref (xad U 64))]) hO hN dL_law_361 (by decide) rfl ?_
        refine y_aload_n (n := 5) hO dL_law_363 rfl rfl ?_
        refine y_callV hO (kc_restore U M h) dL_law_364 lkL_123 fX3_restore vX3_restore (by decide) rfl rfl rfl rfl rfl (by decide) (Nat.le_of_ble_eq_true rfl) (fun r M1 p1 => ?_)
        obtain ⟨rfl, h1, -⟩ := p1
        rw [restore_some hs] at h1 ⊢
        refine y_aload_n (n := 5) hO dL_law_367 rfl rfl ?_
        refine y_iconst (v := nI 0) hO dL_law_368 rfl ?_
        refine y_callV1 hO (kc_total U M1 h1 (nI 0)) dL_law_369 lkL_13 fX3_total vX3_total (by decide) rfl rfl rfl rfl rfl (by decide) (Nat.le_of_ble_eq_true rfl) ?_
        refine y_icmp_ne (tgt := 414) hO dL_law_372 (by decide) (fun c => absurd rfl c) (fun _ => ?_)
        refine y_aload_n (n := 5) hO dL_law_375 rfl rfl ?_
        refine y_callL hO (l_seen U M1 h1) dL_law_376 lkL_90 fL_seen sL_seen rfl rfl (by decide) (Nat.le_of_ble_eq_true rfl) ?_
        refine y_lload_n (n := 3) hO dL_law_379 rfl rfl ?_
        refine y_lcmp hO dL_law_380 ?_
        refine y_if_ne (tgt := 414) hO dL_law_381 (by decide) (fun c => absurd (rfl) c) (fun _ => ?_)
        refine y_aload_n (n := 5) hO dL_law_384 rfl rfl ?_
        refine y_callV hO (kc_undo U M1 h1) dL_law_385 lkL_120 fX3_undo vX3_undo (by decide) rfl rfl rfl rfl rfl (by decide) (Nat.le_of_ble_eq_true rfl) (fun r M2 p2 => ?_)
        obtain ⟨rfl, h2, -⟩ := p2
        rw [undo_rec] at h2 ⊢
        refine y_if_lt (tgt := 414) hO dL_law_388 (by decide) (fun c => absurd c (nI_pos (by omega))) (fun _ => ?_)
        refine y_aload_n (n := 5) hO dL_law_391 rfl rfl ?_
        refine y_callL hO (l_seen U M2 h2) dL_law_392 lkL_90 fL_seen sL_seen rfl rfl (by decide) (Nat.le_of_ble_eq_true rfl) ?_
        refine y_lload (n := 0) hO dL_law_395 rfl ?_
        refine y_lcmp hO dL_law_397 ?_
        refine y_if_ne (tgt := 414) hO dL_law_398 (by decide) (fun c => absurd (rfl) c) (fun _ => ?_)
        refine y_aload_n (n := 5) hO dL_law_401 rfl rfl ?_
        refine y_callV hO (kc_keep U M2 h2) dL_law_402 lkL_132 fX3_keep vX3_keep (by decide) rfl rfl rfl rfl rfl (by decide) (Nat.le_of_ble_eq_true rfl) (fun r M3 p3 => ?_)
        obtain ⟨rfl, h3, -⟩ := p3
        refine y_iload (n := 1) hO dL_law_405 rfl ?_
        refine y_icmp_ne (tgt := 414) hO dL_law_407 (by decide) (fun c => absurd rfl c) (fun _ => ?_)
        refine y_iconst (v := nI 1) hO dL_law_410 rfl ?_
        refine y_goto (tgt := 415) hO dL_law_411 (by decide) ?_
        refine y_istore_n (lv' := [(2, .int (nI 1)), (13, .long (sv s.1)), (12, .int (q_total s (nI 0))), (5, .int (nI i)), (3, .long (sv x)), (1, .ref (xad U 0)), (0, .ref (xad U 64))]) hO hN dL_law_415 rfl (by decide) rfl ?_
        refine y_lload (n := 1) hO dL_law_416 rfl ?_
        refine y_lstore_n (lv' := [(3, .long (sv s.1)), (2, .int (nI 1)), (13, .long (sv s.1)), (12, .int (q_total s (nI 0))), (5, .int (nI i)), (1, .ref (xad U 0)), (0, .ref (xad U 64))]) hO hN dL_law_418 rfl (by decide) rfl ?_
        refine YW.sub (lv' := [(5, .int (nI i)), (3, .long (sv s.1)), (2, .int (nI 1)), (1, .ref (xad U 0)), (0, .ref (xad U 64))]) [4, 0, 1, 5, 6] rfl ?_
        exact j419 M3 _ s.1 h3 g rfl
    refine y_iload (n := 0) hO dL_law_120 rfl ?_
    refine y_bipush (v := nI 48) hO dL_law_122 rfl ?_
    refine y_icmp_ge (tgt := 425) hO dL_law_124 (by decide) (fun c => absurd c (nI_ge hi (by decide))) (fun _ => ?_)
    refine y_iload_n (n := 2) hO dL_law_127 rfl rfl ?_
    refine y_if_eq (tgt := 425) hO dL_law_128 (by decide) (fun c => absurd c (nI_ne0 (by decide) (by decide))) (fun _ => ?_)
    refine y_aload_n (n := 4) hO dL_law_131 rfl rfl ?_
    refine y_iload (n := 0) hO dL_law_132 rfl ?_
    refine y_cell hO hX hn (by omega) dL_law_134 lkL_135 rfl (by decide) (Nat.le_of_ble_eq_true rfl) (fun x0 hx0 => ?_)
    refine y_istore (lv' := [(6, .int (nI x0)), (5, .int (nI i)), (3, .long (sv x)), (2, .int (nI 1)), (1, .ref (xad U 0)), (0, .ref (xad U 64))]) hO hN dL_law_137 (by decide) rfl ?_
    refine y_aload_n (n := 4) hO dL_law_139 rfl rfl ?_
    refine y_callL hO (l_seen U M h) dL_law_140 lkL_90 fL_seen sL_seen rfl rfl (by decide) (Nat.le_of_ble_eq_true rfl) ?_
    refine y_lstore (lv' := [(7, .long (sv s.1)), (6, .int (nI x0)), (5, .int (nI i)), (3, .long (sv x)), (2, .int (nI 1)), (1, .ref (xad U 0)), (0, .ref (xad U 64))]) hO hN dL_law_143 (by decide) rfl ?_
    refine y_aload_n (n := 5) hO dL_law_145 rfl rfl ?_
    refine y_bipush (v := nI 9) hO dL_law_146 rfl ?_
    refine y_callV1 hO (kc_total U M h (nI 9)) dL_law_148 lkL_13 fX3_total vX3_total (by decide) rfl rfl rfl rfl rfl (by decide) (Nat.le_of_ble_eq_true rfl) ?_
    refine y_istore (lv' := [(9, .int (nI s.2.2.1.length)), (7, .long (sv s.1)), (6, .int (nI x0)), (5, .int (nI i)), (3, .long (sv x)), (2, .int (nI 1)), (1, .ref (xad U 0)), (0, .ref (xad U 64))]) hO hN dL_law_151 (by decide) rfl ?_
    refine y_aload_n (n := 6) hO dL_law_153 rfl rfl ?_
    refine y_iload (n := 2) hO dL_law_154 rfl ?_
    have j226 : ∀ (M1 : xM) (s1 : aO) (r w11 : Int32), RC M1 s1 → Wg s1.1 (i + 1) → s1.2.1 = some x → (r < 0 ∨ (¬ r < 0 ∧ ∃ y, s1 = oCur (oRec s) y)) → YW U G 226 [(2, .int (nI 1)), (11, .int (w11)), (10, .int (r)), (9, .int (nI s.2.2.1.length)), (7, .long (sv s.1)), (6, .int (nI x0)), (5, .int (nI i)), (3, .long (sv x)), (1, .ref (xad U 0)), (0, .ref (xad U 64))] [] M1 := by
      intro M1 s1 r w11 h1 g1 hs1 hr
      have j276 : ∀ M2, RC M2 s1 → YW U G 276 [(2, .int (nI 1)), (11, .int (w11)), (10, .int (r)), (9, .int (nI s.2.2.1.length)), (7, .long (sv s.1)), (6, .int (nI x0)), (5, .int (nI i)), (3, .long (sv x)), (1, .ref (xad U 0)), (0, .ref (xad U 64))] [] M2 := by
        intro M2 h2
        refine y_iconst (v := nI 1) hO dL_law_276 rfl ?_
        refine y_goto (tgt := 281) hO dL_law_277 (by decide) ?_
        refine y_istore_n (lv' := [(2, .int (nI 1)), (11, .int (w11)), (10, .int (r)), (9, .int (nI s.2.2.1.length)), (7, .long (sv s.1)), (6, .int (nI x0)), (5, .int (nI i)), (3, .long (sv x)), (1, .ref (xad U 0)), (0, .ref (xad U 64))]) hO hN dL_law_281 rfl (by decide) rfl ?_
        refine y_iload_n (n := 0) hO dL_law_282 rfl rfl ?_
        refine y_if_eq (tgt := 336) hO dL_law_283 (by decide) (fun c => absurd c (nI_ne0 (by decide) (by decide))) (fun _ => ?_)
        refine y_iload (n := 2) hO dL_law_286 rfl ?_
        rcases hr with hr | ⟨hr, y, rfl⟩
        · refine id ?_
          refine y_if_lt (tgt := 336) hO dL_law_288 (by decide) (fun _ => ?_) (fun c => absurd (hr) c)
          refine YW.sub (lv' := [(5, .int (nI i)), (3, .long (sv x)), (2, .int (nI 1)), (1, .ref (xad U 0)), (0, .ref (xad U 64))]) [6, 7, 0, 8, 9] rfl ?_
          exact j336 M2 s1 h2 g1 hs1
        · refine id ?_
          refine y_if_lt (tgt := 336) hO dL_law_288 (by decide) (fun c => absurd c (hr)) (fun _ => ?_)
          refine y_iload (n := 5) hO dL_law_291 rfl ?_
          refine y_bipush (v := nI 11) hO dL_law_293 rfl ?_
          refine y_idivN hO hx0 (by decide) (by decide) dL_law_295 ?_
          refine y_iconst (v := nI 3) hO dL_law_296 rfl ?_
          refine y_iremN hO (by omega) (by decide) (by decide) dL_law_297 ?_
          refine y_if_ne (tgt := 336) hO dL_law_298 (by decide) (fun cu => ?_) (fun cu => ?_)
          · refine id ?_
            refine YW.sub (lv' := [(5, .int (nI i)), (3, .long (sv x)), (2, .int (nI 1)), (1, .ref (xad U 0)), (0, .ref (xad U 64))]) [6, 7, 0, 8, 9] rfl ?_
            exact j336 M2 _ h2 g1 hs1
          · refine id ?_
            refine y_aload_n (n := 8) hO dL_law_301 rfl rfl ?_
            refine y_callV hO (kc_undo U M2 h2) dL_law_302 lkL_120 fX3_undo vX3_undo (by decide) rfl rfl rfl rfl rfl (by decide) (Nat.le_of_ble_eq_true rfl) (fun r M3 p3 => ?_)
            obtain ⟨rfl, h3, -⟩ := p3
            rw [undo_rec] at h3 ⊢
            have j317 : YW U G 317 [(2, .int (nI 1)), (11, .int (w11)), (10, .int (r)), (9, .int (nI s.2.2.1.length)), (7, .long (sv s.1)), (6, .int (nI x0)), (5, .int (nI i)), (3, .long (sv x)), (1, .ref (xad U 0)), (0, .ref (xad U 64))] [.int (nI (min 3 s.2.2.1.length)), .int (nI (min 3 s.2.2.1.length))] M3 := by
              refine y_icmp_ne (tgt := 334) hO dL_law_317 (by decide) (fun c => absurd rfl c) (fun _ => ?_)
              refine y_aload_n (n := 8) hO dL_law_320 rfl rfl ?_
              refine y_callL hO (l_seen U M3 h3) dL_law_321 lkL_90 fL_seen sL_seen rfl rfl (by decide) (Nat.le_of_ble_eq_true rfl) ?_
              refine y_lload (n := 4) hO dL_law_324 rfl ?_
              refine y_lcmp hO dL_law_326 ?_
              refine y_if_ne (tgt := 334) hO dL_law_327 (by decide) (fun c => absurd (rfl) c) (fun _ => ?_)
              refine y_iconst (v := nI 1) hO dL_law_330 rfl ?_
              refine y_goto (tgt := 335) hO dL_law_331 (by decide) ?_
              refine y_istore_n (lv' := [(2, .int (nI 1)), (11, .int (w11)), (10, .int (r)), (9, .int (nI s.2.2.1.length)), (7, .long (sv s.1)), (6, .int (nI x0)), (5, .int (nI i)), (3, .long (sv x)), (1, .ref (xad U 0)), (0, .ref (xad U 64))]) hO hN dL_law_335 rfl (by decide) rfl ?_
              refine YW.sub (lv' := [(5, .int (nI i)), (3, .long (sv x)), (2, .int (nI 1)), (1, .ref (xad U 0)), (0, .ref (xad U 64))]) [6, 7, 0, 8, 9] rfl ?_
              exact j336 M3 _ h3 (g.up (Nat.le_succ i)) hs
            refine y_iload (n := 3) hO dL_law_305 rfl ?_
            refine y_iconst (v := nI 4) hO dL_law_307 rfl ?_
            refine y_icmp_ge (tgt := 316) hO dL_law_308 (by decide) (fun c4 => ?_) (fun c4 => ?_)
            · have e4 : s.2.2.1.length = 4 := by have := (nI_leI (by decide) (by omega)).mp c4; omega
              rw [e4] at j317 ⊢
              refine y_iconst (v := nI 3) hO dL_law_316 rfl ?_
              exact j317
            · have e4 : min 3 s.2.2.1.length = s.2.2.1.length := by have : ¬ 4 ≤ s.2.2.1.length := fun z => c4 ((nI_leI (by decide) (by omega)).mpr z); omega
              rw [e4] at j317 ⊢
              refine y_iload (n := 3) hO dL_law_311 rfl ?_
              refine y_goto (tgt := 317) hO dL_law_313 (by decide) ?_
              exact j317
      have j257 : YW U G 257 [(2, .int (nI 1)), (11, .int (w11)), (10, .int (r)), (9, .int (nI s.2.2.1.length)), (7, .long (sv s.1)), (6, .int (nI x0)), (5, .int (nI i)), (3, .long (sv x)), (1, .ref (xad U 0)), (0, .ref (xad U 64))] [] M1 := by
        refine y_iload (n := 6) hO dL_law_257 rfl ?_
        refine y_iconst (v := nI 5) hO dL_law_259 rfl ?_
        refine y_iremN hO (by omega) (by decide) (by decide) dL_law_260 ?_
        refine y_iconst (v := nI 4) hO dL_law_261 rfl ?_
        refine y_icmp_ne (tgt := 276) hO dL_law_262 (by decide) (fun cr => ?_) (fun cr => ?_)
        · exact j276 M1 h1
        · refine id ?_
          refine y_aload_n (n := 8) hO dL_law_265 rfl rfl ?_
          refine y_iload (n := 5) hO dL_law_266 rfl ?_
          refine y_iconst (v := nI 5) hO dL_law_268 rfl ?_
          refine y_idivN hO hx0 (by decide) (by decide) dL_law_269 ?_
          refine y_callS hO (l_refuses U M1 h1 g1 (by omega) (show x0 / 5 < 2 ^ 31 by omega)) dL_law_270 lkL_129 fL_refuses sL_refuses rfl rfl (by decide) (Nat.le_of_ble_eq_true rfl) (fun r M2 p2 => ?_)
          obtain ⟨rfl, h2⟩ := p2
          refine y_if_eq (tgt := 280) hO dL_law_273 (by decide) (fun c => absurd c (nI_ne0 (by decide) (by decide))) (fun _ => ?_)
          exact j276 M2 h2
      refine y_iload_n (n := 0) hO dL_law_226 rfl rfl ?_
      refine y_if_eq (tgt := 280) hO dL_law_227 (by decide) (fun c => absurd c (nI_ne0 (by decide) (by decide))) (fun _ => ?_)
      refine y_aload_n (n := 8) hO dL_law_230 rfl rfl ?_
      refine y_callS hO (l_isInOrder U M1 h1 g1 (by omega)) dL_law_231 lkL_142 fL_isInOrder sL_isInOrder rfl rfl (by decide) (Nat.le_of_ble_eq_true rfl) (fun r M2 p2 => ?_)
      obtain ⟨rfl, rfl⟩ := p2
      refine y_if_eq (tgt := 280) hO dL_law_234 (by decide) (fun c => absurd c (nI_ne0 (by decide) (by decide))) (fun _ => ?_)
      refine y_iload (n := 6) hO dL_law_237 rfl ?_
      refine y_bipush (v := nI 6) hO dL_law_239 rfl ?_
      refine y_iremN hO (by omega) (by decide) (by decide) dL_law_241 ?_
      refine y_iconst (v := nI 5) hO dL_law_242 rfl ?_
      refine y_icmp_ne (tgt := 257) hO dL_law_243 (by decide) (fun cc => ?_) (fun cc => ?_)
      · exact j257
      · refine id ?_
        refine y_aload_n (n := 8) hO dL_law_246 rfl rfl ?_
        refine y_iload (n := 5) hO dL_law_247 rfl ?_
        refine y_iconst (v := nI 3) hO dL_law_249 rfl ?_
        refine y_idivN hO hx0 (by decide) (by decide) dL_law_250 ?_
        refine y_callS hO (l_isCounted U _ h1 g1 (by omega) (nI (x0 / 3))) dL_law_251 lkL_146 fL_isCounted sL_isCounted rfl rfl (by decide) (Nat.le_of_ble_eq_true rfl) (fun r M3 p3 => ?_)
        obtain ⟨rfl, rfl⟩ := p3
        refine y_if_eq (tgt := 280) hO dL_law_254 (by decide) (fun c => absurd c (nI_ne0 (by decide) (by decide))) (fun _ => ?_)
        exact j257
    refine y_callS hO (l_act U M h g (by omega) hx0) dL_law_156 lkL_139 fL_act sL_act rfl rfl (by decide) (Nat.le_of_ble_eq_true rfl) (fun r M1 p1 => ?_)
    rcases p1 with ⟨h1, r1, r2⟩ | ⟨r1, z, h1, g1⟩
    · refine id ?_
      refine y_istore (lv' := [(10, .int (r)), (9, .int (nI s.2.2.1.length)), (7, .long (sv s.1)), (6, .int (nI x0)), (5, .int (nI i)), (3, .long (sv x)), (2, .int (nI 1)), (1, .ref (xad U 0)), (0, .ref (xad U 64))]) hO hN dL_law_159 (by decide) rfl ?_
      refine y_aload_n (n := 7) hO dL_law_161 rfl rfl ?_
      refine y_bipush (v := nI 9) hO dL_law_162 rfl ?_
      refine y_callV1 hO (kc_total U M1 h1 (nI 9)) dL_law_164 lkL_13 fX3_total vX3_total (by decide) rfl rfl rfl rfl rfl (by decide) (Nat.le_of_ble_eq_true rfl) ?_
      refine y_istore (lv' := [(11, .int (nI s.2.2.1.length)), (10, .int (r)), (9, .int (nI s.2.2.1.length)), (7, .long (sv s.1)), (6, .int (nI x0)), (5, .int (nI i)), (3, .long (sv x)), (2, .int (nI 1)), (1, .ref (xad U 0)), (0, .ref (xad U 64))]) hO hN dL_law_167 (by decide) rfl ?_
      refine y_iload (n := 1) hO dL_law_169 rfl ?_
      refine y_bipush (v := (-9 : Int32)) hO dL_law_171 rfl ?_
      refine y_icmp_le (tgt := 224) hO dL_law_173 (by decide) (fun c => absurd c (r2)) (fun _ => ?_)
      refine y_iload (n := 1) hO dL_law_176 rfl ?_
      refine y_if_ge (tgt := 201) hO dL_law_178 (by decide) (fun c => absurd c (Int32.not_le.mpr r1)) (fun _ => ?_)
      refine y_iload (n := 0) hO dL_law_181 rfl ?_
      refine y_iload (n := 2) hO dL_law_183 rfl ?_
      refine y_icmp_ne (tgt := 224) hO dL_law_185 (by decide) (fun c => absurd rfl c) (fun _ => ?_)
      refine y_aload_n (n := 8) hO dL_law_188 rfl rfl ?_
      refine y_callL hO (l_seen U M1 h1) dL_law_189 lkL_90 fL_seen sL_seen rfl rfl (by decide) (Nat.le_of_ble_eq_true rfl) ?_
      refine y_lload (n := 3) hO dL_law_192 rfl ?_
      refine y_lcmp hO dL_law_194 ?_
      refine y_if_ne (tgt := 224) hO dL_law_195 (by decide) (fun c => absurd (rfl) c) (fun _ => ?_)
      refine y_goto (tgt := 220) hO dL_law_198 (by decide) ?_
      refine y_iconst (v := nI 1) hO dL_law_220 rfl ?_
      refine y_goto (tgt := 225) hO dL_law_221 (by decide) ?_
      refine y_istore_n (lv' := [(2, .int (nI 1)), (11, .int (nI s.2.2.1.length)), (10, .int (r)), (9, .int (nI s.2.2.1.length)), (7, .long (sv s.1)), (6, .int (nI x0)), (5, .int (nI i)), (3, .long (sv x)), (1, .ref (xad U 0)), (0, .ref (xad U 64))]) hO hN dL_law_225 rfl (by decide) rfl ?_
      exact j226 M1 s r _ h1 (g.up (Nat.le_succ i)) hs (Or.inl r1)
    · refine id ?_
      refine y_istore (lv' := [(10, .int (r)), (9, .int (nI s.2.2.1.length)), (7, .long (sv s.1)), (6, .int (nI x0)), (5, .int (nI i)), (3, .long (sv x)), (2, .int (nI 1)), (1, .ref (xad U 0)), (0, .ref (xad U 64))]) hO hN dL_law_159 (by decide) rfl ?_
      refine y_aload_n (n := 7) hO dL_law_161 rfl rfl ?_
      refine y_bipush (v := nI 9) hO dL_law_162 rfl ?_
      refine y_callV1 hO (kc_total U M1 h1 (nI 9)) dL_law_164 lkL_13 fX3_total vX3_total (by decide) rfl rfl rfl rfl rfl (by decide) (Nat.le_of_ble_eq_true rfl) ?_
      rw [rec_len]
      refine y_istore (lv' := [(11, .int (nI (min 4 (s.2.2.1.length + 1)))), (10, .int (r)), (9, .int (nI s.2.2.1.length)), (7, .long (sv s.1)), (6, .int (nI x0)), (5, .int (nI i)), (3, .long (sv x)), (2, .int (nI 1)), (1, .ref (xad U 0)), (0, .ref (xad U 64))]) hO hN dL_law_167 (by decide) rfl ?_
      refine y_iload (n := 1) hO dL_law_169 rfl ?_
      refine y_bipush (v := (-9 : Int32)) hO dL_law_171 rfl ?_
      refine y_icmp_le (tgt := 224) hO dL_law_173 (by decide) (fun c => absurd c (nI_m9 r1)) (fun _ => ?_)
      refine y_iload (n := 1) hO dL_law_176 rfl ?_
      refine y_if_ge (tgt := 201) hO dL_law_178 (by decide) (fun _ => ?_) (fun c => absurd (Int32.not_lt.mp r1) c)
      have j217 : YW U G 217 [(11, .int (nI (min 4 (s.2.2.1.length + 1)))), (10, .int (r)), (9, .int (nI s.2.2.1.length)), (7, .long (sv s.1)), (6, .int (nI x0)), (5, .int (nI i)), (3, .long (sv x)), (2, .int (nI 1)), (1, .ref (xad U 0)), (0, .ref (xad U 64))] [.int (nI (min 4 (s.2.2.1.length + 1))), .int (nI (min 4 (s.2.2.1.length + 1)))] M1 := by
        refine y_icmp_ne (tgt := 224) hO dL_law_217 (by decide) (fun c => absurd rfl c) (fun _ => ?_)
        refine y_iconst (v := nI 1) hO dL_law_220 rfl ?_
        refine y_goto (tgt := 225) hO dL_law_221 (by decide) ?_
        refine y_istore_n (lv' := [(2, .int (nI 1)), (11, .int (nI (min 4 (s.2.2.1.length + 1)))), (10, .int (r)), (9, .int (nI s.2.2.1.length)), (7, .long (sv s.1)), (6, .int (nI x0)), (5, .int (nI i)), (3, .long (sv x)), (1, .ref (xad U 0)), (0, .ref (xad U 64))]) hO hN dL_law_225 rfl (by decide) rfl ?_
        exact j226 M1 _ r _ h1 g1 hs (Or.inr ⟨r1, z, rfl⟩)
      refine y_iload (n := 0) hO dL_law_201 rfl ?_
      refine y_iload (n := 2) hO dL_law_203 rfl ?_
      refine y_iconst (v := nI 4) hO dL_law_205 rfl ?_
      refine y_icmp_ge (tgt := 216) hO dL_law_206 (by decide) (fun c4 => ?_) (fun c4 => ?_)
      · have e4 : min 4 (s.2.2.1.length + 1) = 4 := by have := (nI_leI (by decide) (by omega)).mp c4; omega
        rw [e4] at j217 ⊢
        refine y_iconst (v := nI 4) hO dL_law_216 rfl ?_
        exact j217
      · have e4 : min 4 (s.2.2.1.length + 1) = s.2.2.1.length + 1 := by have : ¬ 4 ≤ s.2.2.1.length := fun z => c4 ((nI_leI (by decide) (by omega)).mpr z); omega
        rw [e4] at j217 ⊢
        refine y_iload (n := 2) hO dL_law_209 rfl ?_
        refine y_iconst (v := nI 1) hO dL_law_211 rfl ?_
        refine y_iadd hO dL_law_212 ?_
        rw [nI_add]
        refine y_goto (tgt := 217) hO dL_law_213 (by decide) ?_
        exact j217
