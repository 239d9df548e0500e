theorem fm_of {α : Type} {f : Nat → Option α} {l : List Nat} {w : List α} (h : l.map f = w.map some) : l.filterMap f = w := by
  have e : l.filterMap f = (l.map f).filterMap id := by rw [List.filterMap_map]; rfl
  rw [e, h, List.filterMap_map]
  exact List.filterMap_some
set_option maxHeartbeats 4000000 in
set_option maxRecDepth 100000 in
theorem whole_start {p : Program} {e : Env} {s : State} {m : MethodId} {below : List Frame} {meth : Method} {c : Code} (l : Launch) (hflags : l.flags = flags0) {b L : Nat} {xs : Nat → Int32} (hL : L ≤ 260) (C0 : lw_At p s m meth c b L xs) : W p l e room_1 s m #[Value.ref b] below meth c s.heap [] 0 0 (lw_Z below #[Value.ref b] s) (entryFrame m ([Value.ref b] : List Value).toArray 15) := by
  obtain ⟨hx, hb, hr, hml, hown, hts0, hX, hbl, hlocks, hgv⟩ := id C0
  have hown : s.vm.findClass RL = some m.cls := hown
  have hts : ∀ w ∈ gw, w.before #[.ref b] s = true := fun w hw => hts0 w (List.mem_filter.mp hw).1
  have hnw : ∀ w ∈ xnw, va_Nw w s := fun w hw => va_Nw.of (by
    have := (List.mem_filter.mp hw).2
    cases w <;> first | rfl | (simp [xisNest] at this)) (hts0 w (List.mem_append_right _ (List.mem_filter.mp hw).1))
  have hAO : va_AO RX1 s := va_AO.of (hts0 (.arrayOver (.object RX1)) (List.mem_append_right _ (List.mem_of_getElem? (i := 77) (by decide +kernel))))
  have hA : ∀ q : Nat, s.heap.size ≤ q → (fun q : Nat => s.heap.size ≤ q) q := fun _ h => h
  have hbA : ¬ (fun q : Nat => s.heap.size ≤ q) b := Nat.not_le.mpr hbl
  obtain ⟨c0, iS0, hK0⟩ := u_known (C := RX0) (T := TX0) (N := 3) (n := 3) hts iwX0 (hts (.instantiable RX0 3) (xg_r (i := 71) (by decide +kernel) rfl))
  obtain ⟨c1, iS1, hK1⟩ := u_known (C := RX1) (T := TX1) (N := 12) (n := 12) hts iwX1 (hts (.instantiable RX1 12) (xg_r (i := 16) (by decide +kernel) rfl))
  obtain ⟨c2, iS2, hK2⟩ := u_known (C := RX2) (T := TX2) (N := 8) (n := 8) hts iwX2 (hts (.instantiable RX2 8) (xg_r (i := 91) (by decide +kernel) rfl))
  obtain ⟨c3, iS3, hK3⟩ := u_known (C := RX3) (T := TX3) (N := 5) (n := 5) hts iwX3 (hts (.instantiable RX3 5) (xg_r (i := 8) (by decide +kernel) rfl))
  obtain ⟨dC, dI, hKc⟩ : ∃ (dC : Nat → ClassId) (dI : Nat → Nat → Nat), ∀ (k : Nat) (q : vw_C), classes[k]? = some q → u_Kn s q.1 q.2.1 q.2.2 (dC k) (dI k) := by
    refine ⟨fun k => [c0, c1, c2, c3].getD k c0, fun k => [iS0, iS1, iS2, iS3].getD k iS0, ?_⟩
    intro k q hq
    match k, hq with
    | 0, hq => cases hq; exact hK0
    | 1, hq => cases hq; exact hK1
    | 2, hq => cases hq; exact hK2
    | 3, hq => cases hq; exact hK3
    | k + 4, hq => simp [classes] at hq
  obtain ⟨D, hDe⟩ : ∃ D : va_G, D = (dC, dI) := ⟨_, rfl⟩
  have hS : va_S (fun q : Nat => s.heap.size ≤ q) s.heap s.heap [] := va_S.rf
  have hK : va_K D classes [] s := ⟨by rw [hDe]; exact hKc, fun k q h => by simp at h⟩
  have hP : va_P D classes [] s.heap := fun k q h => by simp at h
  have hD : va_D (fun q : Nat => s.heap.size ≤ q) [] := ⟨fun i j p q h => by simp at h, fun k q h => by simp at h⟩
  generalize hAe : (fun q : Nat => s.heap.size ≤ q) = A at hA hbA hS hD
  have hl := lv_entry ([.ref b]) (n := 15) (Nat.le_of_ble_eq_true rfl)
  rw [lg_entry_eq]
  generalize (lg_sl ([.ref b]) ++ List.replicate (15 - (lg_sl ([.ref b])).length) Slot.unset).toArray = ls at hl ⊢
  have hl : lv_has ls 15 [(0, .ref b)] := hl
  refine va_new (ci := 3) (fs := [.null, .null, .null, .null, .int 0]) (C := RX3) (T := TX3) (N := 5) hx hb hts iwX3 tyX3 tyX3_ok hown (hts (.classLink RL 14 RX3) (xg_r (i := 7) (by decide +kernel) rfl)) (hts (.instantiable RX3 5) (xg_r (i := 8) (by decide +kernel) rfl)) (hts _ xi_X3) hK hP hD hS hA rfl (fun j hj => by rcases (show j = 0 ∨ j = 1 ∨ j = 2 ∨ j = 3 ∨ j = 4 by omega) with rfl | rfl | rfl | rfl | rfl <;> rfl) (Nat.le_of_ble_eq_true rfl) (Nat.le_of_ble_eq_true rfl) dL_law_0 (fun h0 H hP hD hS => ?_)
  have hP : va_P D classes [(h0, .inr (3, [.null, .null, .null, .null, .int 0]))] H := hP
  have hD : va_D A [(h0, .inr (3, [.null, .null, .null, .null, .int 0]))] := hD
  refine W.widen (k := 1) (n := 5) (by omega) (by omega) ?_
  refine lv_dup hx hb dL_law_3 rfl ?_
  have hPc := hP.sub (ws' := [(h0, .inr (3, [.null, .null, .null, .null, .int 0]))]) [0] rfl
  have hDc := hD.sub (ws' := [(h0, .inr (3, [.null, .null, .null, .null, .int 0]))]) [0] (by decide) rfl
  have hKc := hK.sub (tys' := []) [] rfl
  have hFc := va_free (wc := [(h0, .inr (3, [.null, .null, .null, .null, .int 0]))]) hD hS hA [0] rfl
  refine va_callv (va_runI (As := []) (rest := [.ref h0]) ⟨hx, hb, hml, hown, hts⟩ (i_X3 l D h0 H.size) ⟨callB_of 0 hts (xws_good mX3_init fX3_init) rfl rfl rfl (hts _ xi_X3) (hts _ lkL_119) fX3_init.2.2.1 ⟨Nat.le_of_ble_eq_true rfl, Nat.le_of_ble_eq_true rfl⟩, rfl, hts _ viX3_init⟩ ⟨fun a U g mk q => by obtain ⟨q0, q1, qP, qK, qD, qA, qN⟩ := q; exact ⟨q0, q1, qP, va_K.moved (u := U) (U := U.calling g mk a) (Vm.Alike.refl U.vm) qK, qD, va_AO.moved (u := U) (U := U.calling g mk a) (Vm.Alike.refl U.vm) qA, fun w hw => by
      have ht : w.onTables = true := by
        have := (List.mem_filter.mp hw).2
        cases w <;> first | rfl | (simp [xisNest] at this)
      exact va_Nw.same (u := U) (U := U.calling g mk a) ht rfl (qN w hw)⟩, fun U hU hW => ⟨rfl, by rw [hU], by rw [hU]; exact hPc, va_K.moved hW.alike hKc, hDc.weaken (fun _ _ _ _ => trivial), hAO.moved hW.alike, fun w hw => by
      have h1 := hnw w hw
      have h2 := (List.mem_filter.mp hw).2
      cases w <;> first | (simp [xisNest] at h2; done) | exact va_Nw.warmM hW h1 | exact va_Nw.warmF hW h1⟩⟩ rfl rfl hl.1 rfl (lv_room (Nat.le_of_ble_eq_true rfl)) dL_law_4 ⟨Nat.le_of_ble_eq_true rfl, Nat.le_of_ble_eq_true rfl⟩) hS (fun q _ h => hFc q h) hFc (fun u t H1 locs ht hvm hw hB hz1 hk1 hS => ?_)
  obtain ⟨cI, cQ, p0, p1, p2, p3, q0, mm, a, a0, a1, a3, hB⟩ := hB
  obtain ⟨hP1, hK1, hD1⟩ := hB
  rw [ht] at hP1
  have hK1 := va_K.moved hvm.symm hK1
  have hK : va_K D classes [(cI, .int), (cQ, .object RX1)] s := hK1
  obtain ⟨hP, hD⟩ := va_join (wr := []) (w1 := wX3 h0 cI cQ p0 p1 p2 p3 q0 mm a a0 a1 a3) hP hD [0] [] rfl rfl (by decide) (by decide) hk1 hFc hP1 hD1
  clear hP1 hD1 hk1 hFc hPc hDc hKc
  generalize H1 = H at hP hS ⊢
  have hP : va_P D classes [(h0, .inr (3, [.ref p0, .ref p1, .ref p2, .ref p3, .int 0])), (p0, .inr (1, [.ref (a0 0), .ref (a0 1), .ref (a0 2), .ref (a0 3), .ref (a0 4), .ref (a0 5), .ref (a0 6), .int 0, .int 0, .int 0, .int 0, .int 0])), ((a0 0), .inl (cI, 32, .inl (iniF 32))), ((a0 1), .inl (cI, 32, .inl (fun _ => 0))), ((a0 2), .inl (cI, 32, .inl (fun _ => 0))), ((a0 3), .inl (cI, 32, .inl (fun _ => 0))), ((a0 4), .inl (cI, 32, .inl (fun _ => 0))), ((a0 5), .inl (cI, 32, .inl (fun _ => 0))), ((a0 6), .inl (cI, 32, .inl (fun _ => 0))), (p1, .inr (1, [.ref (a1 0), .ref (a1 1), .ref (a1 2), .ref (a1 3), .ref (a1 4), .ref (a1 5), .ref (a1 6), .int 0, .int 0, .int 0, .int 0, .int 0])), ((a1 0), .inl (cI, 32, .inl (iniF 32))), ((a1 1), .inl (cI, 32, .inl (fun _ => 0))), ((a1 2), .inl (cI, 32, .inl (fun _ => 0))), ((a1 3), .inl (cI, 32, .inl (fun _ => 0))), ((a1 4), .inl (cI, 32, .inl (fun _ => 0))), ((a1 5), .inl (cI, 32, .inl (fun _ => 0))), ((a1 6), .inl (cI, 32, .inl (fun _ => 0))), (p2, .inr (0, [.ref q0, .int 0, .int 0])), (q0, .inl (cQ, 4, .inr (.inr (.inr (.inr (va_up (va_up (va_up (va_up (fun _ => none) 0 (some (mm 0))) 1 (some (mm 1))) 2 (some (mm 2))) 3 (some (mm 3)))))))), ((mm 0), .inr (1, [.ref ((a 0) 0), .ref ((a 0) 1), .ref ((a 0) 2), .ref ((a 0) 3), .ref ((a 0) 4), .ref ((a 0) 5), .ref ((a 0) 6), .int 0, .int 0, .int 0, .int 0, .int 0])), (((a 0) 0), .inl (cI, 32, .inl (iniF 32))), (((a 0) 1), .inl (cI, 32, .inl (fun _ => 0))), (((a 0) 2), .inl (cI, 32, .inl (fun _ => 0))), (((a 0) 3), .inl (cI, 32, .inl (fun _ => 0))), (((a 0) 4), .inl (cI, 32, .inl (fun _ => 0))), (((a 0) 5), .inl (cI, 32, .inl (fun _ => 0))), (((a 0) 6), .inl (cI, 32, .inl (fun _ => 0))), ((mm 1), .inr (1, [.ref ((a 1) 0), .ref ((a 1) 1), .ref ((a 1) 2), .ref ((a 1) 3), .ref ((a 1) 4), .ref ((a 1) 5), .ref ((a 1) 6), .int 0, .int 0, .int 0, .int 0, .int 0])), (((a 1) 0), .inl (cI, 32, .inl (iniF 32))), (((a 1) 1), .inl (cI, 32, .inl (fun _ => 0))), (((a 1) 2), .inl (cI, 32, .inl (fun _ => 0))), (((a 1) 3), .inl (cI, 32, .inl (fun _ => 0))), (((a 1) 4), .inl (cI, 32, .inl (fun _ => 0))), (((a 1) 5), .inl (cI, 32, .inl (fun _ => 0))), (((a 1) 6), .inl (cI, 32, .inl (fun _ => 0))), ((mm 2), .inr (1, [.ref ((a 2) 0), .ref ((a 2) 1), .ref ((a 2) 2), .ref ((a 2) 3), .ref ((a 2) 4), .ref ((a 2) 5), .ref ((a 2) 6), .int 0, .int 0, .int 0, .int 0, .int 0])), (((a 2) 0), .inl (cI, 32, .inl (iniF 32))), (((a 2) 1), .inl (cI, 32, .inl (fun _ => 0))), (((a 2) 2), .inl (cI, 32, .inl (fun _ => 0))), (((a 2) 3), .inl (cI, 32, .inl (fun _ => 0))), (((a 2) 4), .inl (cI, 32, .inl (fun _ => 0))), (((a 2) 5), .inl (cI, 32, .inl (fun _ => 0))), (((a 2) 6), .inl (cI, 32, .inl (fun _ => 0))), ((mm 3), .inr (1, [.ref ((a 3) 0), .ref ((a 3) 1), .ref ((a 3) 2), .ref ((a 3) 3), .ref ((a 3) 4), .ref ((a 3) 5), .ref ((a 3) 6), .int 0, .int 0, .int 0, .int 0, .int 0])), (((a 3) 0), .inl (cI, 32, .inl (iniF 32))), (((a 3) 1), .inl (cI, 32, .inl (fun _ => 0))), (((a 3) 2), .inl (cI, 32, .inl (fun _ => 0))), (((a 3) 3), .inl (cI, 32, .inl (fun _ => 0))), (((a 3) 4), .inl (cI, 32, .inl (fun _ => 0))), (((a 3) 5), .inl (cI, 32, .inl (fun _ => 0))), (((a 3) 6), .inl (cI, 32, .inl (fun _ => 0))), (p3, .inr (2, [.ref (a3 0), .int 0, .int 0, .int 0, .ref (a3 1), .ref (a3 2), .ref (a3 3), .ref (a3 4)])), ((a3 0), .inl (cI, 60, .inl (fun _ => 0))), ((a3 1), .inl (cI, 5, .inl (fun _ => 0))), ((a3 2), .inl (cI, 5, .inl (fun _ => 0))), ((a3 3), .inl (cI, 5, .inl (fun _ => 0))), ((a3 4), .inl (cI, 5, .inl (fun _ => 0)))] H := hP
  have hD : va_D A [(h0, .inr (3, [.ref p0, .ref p1, .ref p2, .ref p3, .int 0])), (p0, .inr (1, [.ref (a0 0), .ref (a0 1), .ref (a0 2), .ref (a0 3), .ref (a0 4), .ref (a0 5), .ref (a0 6), .int 0, .int 0, .int 0, .int 0, .int 0])), ((a0 0), .inl (cI, 32, .inl (iniF 32))), ((a0 1), .inl (cI, 32, .inl (fun _ => 0))), ((a0 2), .inl (cI, 32, .inl (fun _ => 0))), ((a0 3), .inl (cI, 32, .inl (fun _ => 0))), ((a0 4), .inl (cI, 32, .inl (fun _ => 0))), ((a0 5), .inl (cI, 32, .inl (fun _ => 0))), ((a0 6), .inl (cI, 32, .inl (fun _ => 0))), (p1, .inr (1, [.ref (a1 0), .ref (a1 1), .ref (a1 2), .ref (a1 3), .ref (a1 4), .ref (a1 5), .ref (a1 6), .int 0, .int 0, .int 0, .int 0, .int 0])), ((a1 0), .inl (cI, 32, .inl (iniF 32))), ((a1 1), .inl (cI, 32, .inl (fun _ => 0))), ((a1 2), .inl (cI, 32, .inl (fun _ => 0))), ((a1 3), .inl (cI, 32, .inl (fun _ => 0))), ((a1 4), .inl (cI, 32, .inl (fun _ => 0))), ((a1 5), .inl (cI, 32, .inl (fun _ => 0))), ((a1 6), .inl (cI, 32, .inl (fun _ => 0))), (p2, .inr (0, [.ref q0, .int 0, .int 0])), (q0, .inl (cQ, 4, .inr (.inr (.inr (.inr (va_up (va_up (va_up (va_up (fun _ => none) 0 (some (mm 0))) 1 (some (mm 1))) 2 (some (mm 2))) 3 (some (mm 3)))))))), ((mm 0), .inr (1, [.ref ((a 0) 0), .ref ((a 0) 1), .ref ((a 0) 2), .ref ((a 0) 3), .ref ((a 0) 4), .ref ((a 0) 5), .ref ((a 0) 6), .int 0, .int 0, .int 0, .int 0, .int 0])), (((a 0) 0), .inl (cI, 32, .inl (iniF 32))), (((a 0) 1), .inl (cI, 32, .inl (fun _ => 0))), (((a 0) 2), .inl (cI, 32, .inl (fun _ => 0))), (((a 0) 3), .inl (cI, 32, .inl (fun _ => 0))), (((a 0) 4), .inl (cI, 32, .inl (fun _ => 0))), (((a 0) 5), .inl (cI, 32, .inl (fun _ => 0))), (((a 0) 6), .inl (cI, 32, .inl (fun _ => 0))), ((mm 1), .inr (1, [.ref ((a 1) 0), .ref ((a 1) 1), .ref ((a 1) 2), .ref ((a 1) 3), .ref ((a 1) 4), .ref ((a 1) 5), .ref ((a 1) 6), .int 0, .int 0, .int 0, .int 0, .int 0])), (((a 1) 0), .inl (cI, 32, .inl (iniF 32))), (((a 1) 1), .inl (cI, 32, .inl (fun _ => 0))), (((a 1) 2), .inl (cI, 32, .inl (fun _ => 0))), (((a 1) 3), .inl (cI, 32, .inl (fun _ => 0))), (((a 1) 4), .inl (cI, 32, .inl (fun _ => 0))), (((a 1) 5), .inl (cI, 32, .inl (fun _ => 0))), (((a 1) 6), .inl (cI, 32, .inl (fun _ => 0))), ((mm 2), .inr (1, [.ref ((a 2) 0), .ref ((a 2) 1), .ref ((a 2) 2), .ref ((a 2) 3), .ref ((a 2) 4), .ref ((a 2) 5), .ref ((a 2) 6), .int 0, .int 0, .int 0, .int 0, .int 0])), (((a 2) 0), .inl (cI, 32, .inl (iniF 32))), (((a 2) 1), .inl (cI, 32, .inl (fun _ => 0))), (((a 2) 2), .inl (cI, 32, .inl (fun _ => 0))), (((a 2) 3), .inl (cI, 32, .inl (fun _ => 0))), (((a 2) 4), .inl (cI, 32, .inl (fun _ => 0))), (((a 2) 5), .inl (cI, 32, .inl (fun _ => 0))), (((a 2) 6), .inl (cI, 32, .inl (fun _ => 0))), ((mm 3), .inr (1, [.ref ((a 3) 0), .ref ((a 3) 1), .ref ((a 3) 2), .ref ((a 3) 3), .ref ((a 3) 4), .ref ((a 3) 5), .ref ((a 3) 6), .int 0, .int 0, .int 0, .int 0, .int 0])), (((a 3) 0), .inl (cI, 32, .inl (iniF 32))), (((a 3) 1), .inl (cI, 32, .inl (fun _ => 0))), (((a 3) 2), .inl (cI, 32, .inl (fun _ => 0))), (((a 3) 3), .inl (cI, 32, .inl (fun _ => 0))), (((a 3) 4), .inl (cI, 32, .inl (fun _ => 0))), (((a 3) 5), .inl (cI, 32, .inl (fun _ => 0))), (((a 3) 6), .inl (cI, 32, .inl (fun _ => 0))), (p3, .inr (2, [.ref (a3 0), .int 0, .int 0, .int 0, .ref (a3 1), .ref (a3 2), .ref (a3 3), .ref (a3 4)])), ((a3 0), .inl (cI, 60, .inl (fun _ => 0))), ((a3 1), .inl (cI, 5, .inl (fun _ => 0))), ((a3 2), .inl (cI, 5, .inl (fun _ => 0))), ((a3 3), .inl (cI, 5, .inl (fun _ => 0))), ((a3 4), .inl (cI, 5, .inl (fun _ => 0)))] := hD
  refine W.widen (k := 57) (n := 1516) (by omega) (by omega) ?_
  refine lv_astore_n (lv' := [(1, .ref h0), (0, .ref b)]) hx hb dL_law_7 rfl hl (by decide) rfl (fun ls hl => ?_)
  subst hDe
  have fr := fresh l dC dI cI cQ b h0 p0 p1 p2 p3 q0 mm a a0 a1 a3
  have hP := hP.sub prm (fm_of fr)
  have hD := hD.sub prm (by decide) fr
  generalize hU : ((l, dC, dI, adF (adL h0 p0 p1 p2 p3 q0 mm a a0 a1 a3) b, cI, cQ) : xP) = U at hP hD
  have hKU : va_K (xD U) classes (xtys U) s := by rw [← hU]; exact hK
  have hlU : xl U = l := by rw [← hU]; rfl
  have h64 : xad U 64 = b := by rw [← hU]; rfl
  have h00 : xad U 0 = h0 := by rw [← hU]; rfl
  have hPU : va_P (xD U) classes (xWd U M0) H := by rw [← hU] at hP ⊢; exact hP
  have hl : lv_has ls 15 [(1, .ref (xad U 0)), (0, .ref (xad U 64))] := by rw [h64, h00]; exact hl
  refine W.widen (k := 600000) (n := 7302250) (by omega) (by omega) ?_
  subst hlU
  exact xL_pre (U := U) (G := (p, e, room_1, s, m, #[.ref b], below, meth, c, A, 15, 600000, 7302250, lw_Z below #[.ref b] s)) rfl ⟨hx, hb, hml, hown, hts, hKU, fun i j hi hj z => by
    have := hD.1 _ _ _ _ (xWd_get U M0 hi) (xWd_get U M0 hj) z
    rw [← xpc_ps hi, ← xpc_ps hj, this], hnw, fun k hk => hD.2 _ _ (xWd_get U M0 hk), by decide, by decide, Nat.le_refl _, Nat.le_refl _⟩ (n := L) (xs := xs) ⟨by rw [h64]; exact hX, by rw [h64]; exact hbl, by rw [h64]; exact hbA⟩ (by omega) (fun L1 M1 H1 locs1 ls1 hP1 hS1 hL1 => va_forget (fun q hq => by have := hS1.2.2 q hq; rw [← hAe] at this; exact this) (lw_ret hx hb hr hlocks dL_law_426)) M0_RC H locs ls hPU hS hl
