/-! ===== the law's refusesAny (printed by gen/mk37.py) ===== -/
theorem neg_q : ∀ q, q < 300 → (-1 : Int32) - nI q < 0 := by decide +kernel
theorem o_addRule_bad (s : aO) {v m k a : Int32} (h : argB v m k a = false) : o_addRule s v m k a = (-2, s) := by
  unfold o_addRule
  rw [h]
  rfl
theorem o_addRange_bad (s : aO) {x y k a : Int32} (h : (rgB x y && (ixB k 100 && ixB a 10)) = false) : o_addRange s x y k a = (-2, s) := by
  unfold o_addRange
  rw [h]
  rfl
theorem o_place_bad (s : aO) {x : Int32} (h : ixB x 3 = false) : o_setPlacing s x = (-2, s) := by
  unfold o_setPlacing
  rw [h]
  rfl
theorem o_search_bad (s : aO) {x : Int32} (h : ixB x 256 = false) : o_search s x = (-2, s) := by
  unfold o_search
  rw [h]
  rfl
/-- a change that is refused -/
theorem poC_no {U : xP} {mi : xMI} {av : List xV} {M : xM} {R : Int32 × aO} {s : aO} {e : Int32} (h : xMetI U mi av M (poC M R)) (hR : R = (e, s)) : xMetI U mi av M (fun r M' => r = e ∧ RC M' s) := h.imp (fun r M' ⟨h1, h2, _⟩ => by
  rw [hR] at h1 h2
  exact ⟨h1, h2⟩)
theorem q_total_bad (s : aO) {x : Int32} (h : ∀ w, w < 11 → x ≠ nI w) : q_total s x = -2 := by
  unfold q_total
  rw [if_neg (h 0 (by decide)), if_neg (h 1 (by decide)), if_neg (h 2 (by decide)), if_neg (h 3 (by decide)), if_neg (h 4 (by decide)), if_neg (h 5 (by decide)), if_neg (h 6 (by decide)), if_neg (h 7 (by decide)), if_neg (h 8 (by decide)), if_neg (h 9 (by decide)), if_neg (h 10 (by decide))]
theorem neg_ne {x : Int32} (h : x < 0) {n : Nat} (hn : n < 2 ^ 31) : x ≠ nI n := by
  rintro rfl
  exact nI_pos hn h
theorem q_find_bad (A : aR) {x : Int32} (h : ixB x 256 = false) : q_find A x = -2 := by
  unfold q_find
  rw [h]
  rfl
theorem q_power_bad (A : aR) {x : Int32} (h : ixB x 256 = false) : q_power A x = -2 := by
  unfold q_power
  rw [h]
  rfl
theorem q_wm_bad (A : aR) {x : Int32} (h : ixB x 100 = false) : q_wm A x = -2 := by
  unfold q_wm
  rw [h]
  rfl
theorem q_ef_bad {x y : Int32} (h : rgB x y = false) : q_ef x y = -2 := by
  unfold q_ef
  rw [h]
  rfl
theorem q_in_bad (A : aR) (w : Nat) {x : Int32} (h : ixB x 32 = false) : q_in A w x = -1 := by
  unfold q_in
  rw [h]
  rfl
theorem q_sort_bad (A : aR) {x : Int32} (h : ixB x 32 = false) : q_sort A x = -1 := by
  unfold q_sort
  rw [q_in_bad A 2 h]
  rfl
theorem q_hid_bad (A : aR) {x : Int32} (h : ixB x 32 = false) : q_hid A x = -1 := by
  unfold q_hid
  rw [h]
  rfl
theorem q_keys_bad (A : aR) {x : Int32} (h : ixB x 32 = false) : q_keys A x = -1 := by
  unfold q_keys
  rw [h]
  rfl
theorem q_slot_bad {A : aR} {x : Int32} (y : Int32) (h : nC (pRule A x) 32 = 0) : q_slotOf A x y = -1 := by
  unfold q_slotOf
  rw [no_slot h]
  rfl
theorem q_of_bad {A : aR} (w : Nat) {x : Int32} (h : nC (pRule A x) 32 = 0) : q_of A w x = -1 := by
  unfold q_of
  rw [no_slot h]
  rfl
theorem q_fm_bad (A : aR) {x : Int32} (h : ixB x 4 = false) : q_fm A x = -1 := by
  unfold q_fm
  rw [h]
  rfl
theorem q_fv_bad (A : aR) {x : Int32} (h : ixB x 4 = false) : q_fv A x = -1 := by
  unfold q_fv
  rw [h]
  rfl
theorem rgB_x {x : Int32} (y : Int32) (h : ixB x 256 = false) : rgB x y = false := by
  unfold rgB
  rw [h]
  rfl
theorem rgB_y (x : Int32) {y : Int32} (h : ixB y 256 = false) : rgB x y = false := by
  unfold rgB
  rw [h]
  simp
theorem l_refusesAny (U : xP) (M : xM) {s : aO} (h : RC M s) {B : Nat} (g : Wg s.1 B) (hB : B < 1000000) {x : Nat} (hx : x < 2 ^ 31) : xMetI U mL_refusesAny [.inr 0, .inl (nI x)] M (fun r M' => r = nI 1 ∧ RC M' s) := by
  obtain ⟨a0, l0, e0, w⟩ := id g.1
  have hr : s.1.2 1 ≠ -1 := by rw [e0]; exact nI_m1 (by omega)
  have hle := aCnt_le s.1.1
  refine xMetI.of (ty := .boolean) (L := [some (.inr 0), some (.inl (nI x)), none, none, none, none, none, none]) fL_refusesAny rfl rfl (Nat.le_of_ble_eq_true rfl) (fun G hN hO hR => ?_)
  have hN : G.2.2.2.2.2.2.2.2.2.2.1 = 8 := hN
  have hO : xOK U G RL cL_refusesAny 7 := hO
  have main : ∀ (M : xM) (far rk act no slot : Int32), RC M s → ixB far 256 = false → ixB rk 100 = false → ixB act 10 = false → nC (pRule s.1.1 no) 32 = 0 → ixB slot 32 = false → XW U G 132 [some (.inr 0), some (.inl (nI x)), some (.inl far), some (.inl rk), some (.inl act), some (.inl no), some (.inl slot), none] [] M := by
    intro M far rk act no slot h hfar hrk hact hno hslot
    refine x_aload_n hO dL_refusesAny_132 rfl rfl ?_
    refine x_iload_n hO dL_refusesAny_133 rfl rfl ?_
    refine x_iconst (v := nI 0) hO dL_refusesAny_134 rfl ?_
    refine x_iconst (v := nI 0) hO dL_refusesAny_135 rfl ?_
    refine x_iconst (v := nI 0) hO dL_refusesAny_136 rfl ?_
    refine x_callV hO (poC_no (kc_addRule U M h hr far (nI 0) (nI 0) (nI 0)) (o_addRule_bad s (by simp [argB, hfar, hrk, hact]))) dL_refusesAny_137 lkL_56 fX3_addRule vX3_addRule (by decide) rfl rfl rfl rfl rfl (by decide) (Nat.le_of_ble_eq_true rfl) (fun r M p1 => ?_)
    obtain ⟨rfl, h⟩ := p1
    refine x_bipush (v := (-2 : Int32)) hO dL_refusesAny_140 rfl ?_
    refine x_icmp_ne (tgt := 259) hO dL_refusesAny_142 (by decide) (fun c => absurd rfl c) (fun _ => ?_)
    refine x_aload_n hO dL_refusesAny_145 rfl rfl ?_
    refine x_iconst (v := nI 0) hO dL_refusesAny_146 rfl ?_
    refine x_iload_n hO dL_refusesAny_147 rfl rfl ?_
    refine x_iconst (v := nI 0) hO dL_refusesAny_148 rfl ?_
    refine x_iconst (v := nI 0) hO dL_refusesAny_149 rfl ?_
    refine x_callV hO (poC_no (kc_addRule U M h hr (nI 0) far (nI 0) (nI 0)) (o_addRule_bad s (by simp [argB, hfar, hrk, hact]))) dL_refusesAny_150 lkL_56 fX3_addRule vX3_addRule (by decide) rfl rfl rfl rfl rfl (by decide) (Nat.le_of_ble_eq_true rfl) (fun r M p1 => ?_)
    obtain ⟨rfl, h⟩ := p1
    refine x_bipush (v := (-2 : Int32)) hO dL_refusesAny_153 rfl ?_
    refine x_icmp_ne (tgt := 259) hO dL_refusesAny_155 (by decide) (fun c => absurd rfl c) (fun _ => ?_)
    refine x_aload_n hO dL_refusesAny_158 rfl rfl ?_
    refine x_iconst (v := nI 0) hO dL_refusesAny_159 rfl ?_
    refine x_iconst (v := nI 0) hO dL_refusesAny_160 rfl ?_
    refine x_iload_n hO dL_refusesAny_161 rfl rfl ?_
    refine x_iconst (v := nI 0) hO dL_refusesAny_162 rfl ?_
    refine x_callV hO (poC_no (kc_addRule U M h hr (nI 0) (nI 0) rk (nI 0)) (o_addRule_bad s (by simp [argB, hfar, hrk, hact]))) dL_refusesAny_163 lkL_56 fX3_addRule vX3_addRule (by decide) rfl rfl rfl rfl rfl (by decide) (Nat.le_of_ble_eq_true rfl) (fun r M p1 => ?_)
    obtain ⟨rfl, h⟩ := p1
    refine x_bipush (v := (-2 : Int32)) hO dL_refusesAny_166 rfl ?_
    refine x_icmp_ne (tgt := 259) hO dL_refusesAny_168 (by decide) (fun c => absurd rfl c) (fun _ => ?_)
    refine x_aload_n hO dL_refusesAny_171 rfl rfl ?_
    refine x_iconst (v := nI 0) hO dL_refusesAny_172 rfl ?_
    refine x_iconst (v := nI 0) hO dL_refusesAny_173 rfl ?_
    refine x_iconst (v := nI 0) hO dL_refusesAny_174 rfl ?_
    refine x_iload hO dL_refusesAny_175 rfl ?_
    refine x_callV hO (poC_no (kc_addRule U M h hr (nI 0) (nI 0) (nI 0) act) (o_addRule_bad s (by simp [argB, hfar, hrk, hact]))) dL_refusesAny_177 lkL_56 fX3_addRule vX3_addRule (by decide) rfl rfl rfl rfl rfl (by decide) (Nat.le_of_ble_eq_true rfl) (fun r M p1 => ?_)
    obtain ⟨rfl, h⟩ := p1
    refine x_bipush (v := (-2 : Int32)) hO dL_refusesAny_180 rfl ?_
    refine x_icmp_ne (tgt := 259) hO dL_refusesAny_182 (by decide) (fun c => absurd rfl c) (fun _ => ?_)
    refine x_aload_n hO dL_refusesAny_185 rfl rfl ?_
    refine x_iload_n hO dL_refusesAny_186 rfl rfl ?_
    refine x_sipush (v := nI 255) hO dL_refusesAny_187 rfl ?_
    refine x_iconst (v := nI 0) hO dL_refusesAny_190 rfl ?_
    refine x_iconst (v := nI 0) hO dL_refusesAny_191 rfl ?_
    refine x_callV hO (poC_no (kc_addRange U M h hr far (nI 255) (nI 0) (nI 0)) (o_addRange_bad s (by simp [rgB, hfar, hrk, hact]))) dL_refusesAny_192 lkL_60 fX3_addRange vX3_addRange (by decide) rfl rfl rfl rfl rfl (by decide) (Nat.le_of_ble_eq_true rfl) (fun r M p1 => ?_)
    obtain ⟨rfl, h⟩ := p1
    refine x_bipush (v := (-2 : Int32)) hO dL_refusesAny_195 rfl ?_
    refine x_icmp_ne (tgt := 259) hO dL_refusesAny_197 (by decide) (fun c => absurd rfl c) (fun _ => ?_)
    refine x_aload_n hO dL_refusesAny_200 rfl rfl ?_
    refine x_iconst (v := nI 0) hO dL_refusesAny_201 rfl ?_
    refine x_iload_n hO dL_refusesAny_202 rfl rfl ?_
    refine x_iconst (v := nI 0) hO dL_refusesAny_203 rfl ?_
    refine x_iconst (v := nI 0) hO dL_refusesAny_204 rfl ?_
    refine x_callV hO (poC_no (kc_addRange U M h hr (nI 0) far (nI 0) (nI 0)) (o_addRange_bad s (by simp [rgB, hfar, hrk, hact]))) dL_refusesAny_205 lkL_60 fX3_addRange vX3_addRange (by decide) rfl rfl rfl rfl rfl (by decide) (Nat.le_of_ble_eq_true rfl) (fun r M p1 => ?_)
    obtain ⟨rfl, h⟩ := p1
    refine x_bipush (v := (-2 : Int32)) hO dL_refusesAny_208 rfl ?_
    refine x_icmp_ne (tgt := 259) hO dL_refusesAny_210 (by decide) (fun c => absurd rfl c) (fun _ => ?_)
    refine x_aload_n hO dL_refusesAny_213 rfl rfl ?_
    refine x_bipush (v := nI 9) hO dL_refusesAny_214 rfl ?_
    refine x_bipush (v := nI 8) hO dL_refusesAny_216 rfl ?_
    refine x_iconst (v := nI 0) hO dL_refusesAny_218 rfl ?_
    refine x_iconst (v := nI 0) hO dL_refusesAny_219 rfl ?_
    refine x_callV hO (poC_no (kc_addRange U M h hr (nI 9) (nI 8) (nI 0) (nI 0)) (o_addRange_bad s (by decide))) dL_refusesAny_220 lkL_60 fX3_addRange vX3_addRange (by decide) rfl rfl rfl rfl rfl (by decide) (Nat.le_of_ble_eq_true rfl) (fun r M p1 => ?_)
    obtain ⟨rfl, h⟩ := p1
    refine x_bipush (v := (-2 : Int32)) hO dL_refusesAny_223 rfl ?_
    refine x_icmp_ne (tgt := 259) hO dL_refusesAny_225 (by decide) (fun c => absurd rfl c) (fun _ => ?_)
    refine x_aload_n hO dL_refusesAny_228 rfl rfl ?_
    refine x_iconst (v := nI 0) hO dL_refusesAny_229 rfl ?_
    refine x_iconst (v := nI 1) hO dL_refusesAny_230 rfl ?_
    refine x_iload_n hO dL_refusesAny_231 rfl rfl ?_
    refine x_iconst (v := nI 0) hO dL_refusesAny_232 rfl ?_
    refine x_callV hO (poC_no (kc_addRange U M h hr (nI 0) (nI 1) rk (nI 0)) (o_addRange_bad s (by simp [rgB, hfar, hrk, hact]))) dL_refusesAny_233 lkL_60 fX3_addRange vX3_addRange (by decide) rfl rfl rfl rfl rfl (by decide) (Nat.le_of_ble_eq_true rfl) (fun r M p1 => ?_)
    obtain ⟨rfl, h⟩ := p1
    refine x_bipush (v := (-2 : Int32)) hO dL_refusesAny_236 rfl ?_
    refine x_icmp_ne (tgt := 259) hO dL_refusesAny_238 (by decide) (fun c => absurd rfl c) (fun _ => ?_)
    refine x_aload_n hO dL_refusesAny_241 rfl rfl ?_
    refine x_iconst (v := nI 0) hO dL_refusesAny_242 rfl ?_
    refine x_iconst (v := nI 1) hO dL_refusesAny_243 rfl ?_
    refine x_iconst (v := nI 0) hO dL_refusesAny_244 rfl ?_
    refine x_iload hO dL_refusesAny_245 rfl ?_
    refine x_callV hO (poC_no (kc_addRange U M h hr (nI 0) (nI 1) (nI 0) act) (o_addRange_bad s (by simp [rgB, hfar, hrk, hact]))) dL_refusesAny_247 lkL_60 fX3_addRange vX3_addRange (by decide) rfl rfl rfl rfl rfl (by decide) (Nat.le_of_ble_eq_true rfl) (fun r M p1 => ?_)
    obtain ⟨rfl, h⟩ := p1
    refine x_bipush (v := (-2 : Int32)) hO dL_refusesAny_250 rfl ?_
    refine x_icmp_ne (tgt := 259) hO dL_refusesAny_252 (by decide) (fun c => absurd rfl c) (fun _ => ?_)
    refine x_iconst (v := nI 1) hO dL_refusesAny_255 rfl ?_
    refine x_goto (tgt := 260) hO dL_refusesAny_256 (by decide) ?_
    refine x_istore (n := 8) hO dL_refusesAny_260 rfl (by decide) hN ?_
    refine x_iload hO dL_refusesAny_262 rfl ?_
    refine x_if_eq (tgt := 412) hO dL_refusesAny_264 (by decide) (fun c => absurd c (nI_ne0 (by decide) (by decide))) (fun _ => ?_)
    refine x_aload_n hO dL_refusesAny_267 rfl rfl ?_
    refine x_iload hO dL_refusesAny_268 rfl ?_
    refine x_callV hO (poC_no (kc_remove U M h no) (o_remove_0 hno)) dL_refusesAny_270 lkL_63 fX3_remove vX3_remove (by decide) rfl rfl rfl rfl rfl (by decide) (Nat.le_of_ble_eq_true rfl) (fun r M p1 => ?_)
    obtain ⟨rfl, h⟩ := p1
    refine x_iconst (v := (-1 : Int32)) hO dL_refusesAny_273 rfl ?_
    refine x_icmp_ne (tgt := 412) hO dL_refusesAny_274 (by decide) (fun c => absurd rfl c) (fun _ => ?_)
    suffices kk : ∀ v : Int32, ixB v 3 = false → XW U G 289 [some (.inr 0), some (.inl (nI x)), some (.inl far), some (.inl rk), some (.inl act), some (.inl no), some (.inl slot), some (.inl (nI 1))] [.inl v, .inr 0] M by
      refine x_aload_n hO dL_refusesAny_277 rfl rfl ?_
      refine x_iload_n hO dL_refusesAny_278 rfl rfl ?_
      refine x_iconst (v := nI 2) hO dL_refusesAny_279 rfl ?_
      refine x_iremN hO hx (by decide) (by decide) dL_refusesAny_280 ?_
      refine x_if_ne (tgt := 288) hO dL_refusesAny_281 (by decide) (fun ce => ?_) (fun ce => ?_)
      · refine x_iconst (v := nI 3) hO dL_refusesAny_288 rfl ?_
        exact kk _ (by decide)
      · refine x_iconst (v := (-1 : Int32)) hO dL_refusesAny_284 rfl ?_
        refine x_goto (tgt := 289) hO dL_refusesAny_285 (by decide) ?_
        exact kk _ (by decide)
    intro v hv
    refine x_callV hO (poC_no (kc_setPlacing U M h v) (o_place_bad s hv)) dL_refusesAny_289 lkL_66 fX3_setPlacing vX3_setPlacing (by decide) rfl rfl rfl rfl rfl (by decide) (Nat.le_of_ble_eq_true rfl) (fun r M p1 => ?_)
    obtain ⟨rfl, h⟩ := p1
    refine x_bipush (v := (-2 : Int32)) hO dL_refusesAny_292 rfl ?_
    refine x_icmp_ne (tgt := 412) hO dL_refusesAny_294 (by decide) (fun c => absurd rfl c) (fun _ => ?_)
    obtain ⟨p0, hp0, ep0⟩ := g.2.2
    refine x_aload_n hO dL_refusesAny_297 rfl rfl ?_
    refine x_aload_n hO dL_refusesAny_298 rfl rfl ?_
    refine x_iconst (v := nI 3) hO dL_refusesAny_299 rfl ?_
    refine x_callV1 hO (kc_total U M h (nI 3)) dL_refusesAny_300 lkL_13 fX3_total vX3_total (by decide) rfl rfl rfl rfl rfl (by decide) (Nat.le_of_ble_eq_true rfl) ?_
    rw [q_total_3]
    refine x_callV hO (poC_no (kc_setPlacing U M h (s.1.2 0)) (by rw [ep0, o_place_at s hp0, ep0, if_pos rfl])) dL_refusesAny_303 lkL_66 fX3_setPlacing vX3_setPlacing (by decide) rfl rfl rfl rfl rfl (by decide) (Nat.le_of_ble_eq_true rfl) (fun r M p1 => ?_)
    obtain ⟨rfl, h⟩ := p1
    refine x_bipush (v := (-4 : Int32)) hO dL_refusesAny_306 rfl ?_
    refine x_icmp_ne (tgt := 412) hO dL_refusesAny_308 (by decide) (fun c => absurd rfl c) (fun _ => ?_)
    refine x_aload_n hO dL_refusesAny_311 rfl rfl ?_
    refine x_iload_n hO dL_refusesAny_312 rfl rfl ?_
    refine x_callV hO (poC_no (kc_search U M h far) (o_search_bad s hfar)) dL_refusesAny_313 lkL_69 fX3_search vX3_search (by decide) rfl rfl rfl rfl rfl (by decide) (Nat.le_of_ble_eq_true rfl) (fun r M p1 => ?_)
    obtain ⟨rfl, h⟩ := p1
    refine x_bipush (v := (-2 : Int32)) hO dL_refusesAny_316 rfl ?_
    refine x_icmp_ne (tgt := 412) hO dL_refusesAny_318 (by decide) (fun c => absurd rfl c) (fun _ => ?_)
    refine x_aload_n hO dL_refusesAny_321 rfl rfl ?_
    refine x_iload_n hO dL_refusesAny_322 rfl rfl ?_
    refine x_callV1 hO (kc_find U M h far) dL_refusesAny_323 lkL_50 fX3_find vX3_find (by decide) rfl rfl rfl rfl rfl (by decide) (Nat.le_of_ble_eq_true rfl) ?_
    rw [q_find_bad _ hfar]
    refine x_bipush (v := (-2 : Int32)) hO dL_refusesAny_326 rfl ?_
    refine x_icmp_ne (tgt := 412) hO dL_refusesAny_328 (by decide) (fun c => absurd rfl c) (fun _ => ?_)
    refine x_aload_n hO dL_refusesAny_331 rfl rfl ?_
    refine x_iload_n hO dL_refusesAny_332 rfl rfl ?_
    refine x_callV1 hO (kc_power U M h far) dL_refusesAny_333 lkL_53 fX3_power vX3_power (by decide) rfl rfl rfl rfl rfl (by decide) (Nat.le_of_ble_eq_true rfl) ?_
    rw [q_power_bad _ hfar]
    refine x_bipush (v := (-2 : Int32)) hO dL_refusesAny_336 rfl ?_
    refine x_icmp_ne (tgt := 412) hO dL_refusesAny_338 (by decide) (fun c => absurd rfl c) (fun _ => ?_)
    refine x_aload_n hO dL_refusesAny_341 rfl rfl ?_
    refine x_iload_n hO dL_refusesAny_342 rfl rfl ?_
    refine x_callV1 hO (kc_wouldMove U M h rk) dL_refusesAny_343 lkL_72 fX3_wouldMove vX3_wouldMove (by decide) rfl rfl rfl rfl rfl (by decide) (Nat.le_of_ble_eq_true rfl) ?_
    rw [q_wm_bad _ hrk]
    refine x_bipush (v := (-2 : Int32)) hO dL_refusesAny_346 rfl ?_
    refine x_icmp_ne (tgt := 412) hO dL_refusesAny_348 (by decide) (fun c => absurd rfl c) (fun _ => ?_)
    refine x_aload_n hO dL_refusesAny_351 rfl rfl ?_
    refine x_iload_n hO dL_refusesAny_352 rfl rfl ?_
    refine x_sipush (v := nI 255) hO dL_refusesAny_353 rfl ?_
    refine x_callV1 hO (kc_entriesFor U M far (nI 255)) dL_refusesAny_356 lkL_75 fX3_entriesFor vX3_entriesFor (by decide) rfl rfl rfl rfl rfl (by decide) (Nat.le_of_ble_eq_true rfl) ?_
    rw [q_ef_bad (rgB_x _ hfar)]
    refine x_bipush (v := (-2 : Int32)) hO dL_refusesAny_359 rfl ?_
    refine x_icmp_ne (tgt := 412) hO dL_refusesAny_361 (by decide) (fun c => absurd rfl c) (fun _ => ?_)
    refine x_aload_n hO dL_refusesAny_364 rfl rfl ?_
    refine x_iconst (v := nI 0) hO dL_refusesAny_365 rfl ?_
    refine x_iload_n hO dL_refusesAny_366 rfl rfl ?_
    refine x_callV1 hO (kc_entriesFor U M (nI 0) far) dL_refusesAny_367 lkL_75 fX3_entriesFor vX3_entriesFor (by decide) rfl rfl rfl rfl rfl (by decide) (Nat.le_of_ble_eq_true rfl) ?_
    rw [q_ef_bad (rgB_y _ hfar)]
    refine x_bipush (v := (-2 : Int32)) hO dL_refusesAny_370 rfl ?_
    refine x_icmp_ne (tgt := 412) hO dL_refusesAny_372 (by decide) (fun c => absurd rfl c) (fun _ => ?_)
    suffices kk : ∀ v : Int32, (∀ w, w < 11 → v ≠ nI w) → XW U G 400 [some (.inr 0), some (.inl (nI x)), some (.inl far), some (.inl rk), some (.inl act), some (.inl no), some (.inl slot), some (.inl (nI 1))] [.inl v, .inr 0] M by
      refine x_aload_n hO dL_refusesAny_375 rfl rfl ?_
      refine x_iload_n hO dL_refusesAny_376 rfl rfl ?_
      refine x_iconst (v := nI 2) hO dL_refusesAny_377 rfl ?_
      refine x_iremN hO hx (by decide) (by decide) dL_refusesAny_378 ?_
      refine x_if_ne (tgt := 392) hO dL_refusesAny_379 (by decide) (fun ce => ?_) (fun ce => ?_)
      · refine x_bipush (v := nI 11) hO dL_refusesAny_392 rfl ?_
        refine x_iload_n hO dL_refusesAny_394 rfl rfl ?_
        refine x_sipush (v := nI 300) hO dL_refusesAny_395 rfl ?_
        refine x_iremN hO hx (by decide) (by decide) dL_refusesAny_398 ?_
        refine x_iadd hO dL_refusesAny_399 ?_
        rw [nI_add]
        exact kk _ (fun w hw e => by
            have := (nI_eq (by omega) (by omega)).mp e
            omega)
      · refine x_iconst (v := (-1 : Int32)) hO dL_refusesAny_382 rfl ?_
        refine x_iload_n hO dL_refusesAny_383 rfl rfl ?_
        refine x_sipush (v := nI 300) hO dL_refusesAny_384 rfl ?_
        refine x_iremN hO hx (by decide) (by decide) dL_refusesAny_387 ?_
        refine x_isub hO dL_refusesAny_388 ?_
        refine x_goto (tgt := 400) hO dL_refusesAny_389 (by decide) ?_
        exact kk _ (fun w hw => neg_ne (neg_q _ (by omega)) (by omega))
    intro v hv
    refine x_callV1 hO (kc_total U M h v) dL_refusesAny_400 lkL_13 fX3_total vX3_total (by decide) rfl rfl rfl rfl rfl (by decide) (Nat.le_of_ble_eq_true rfl) ?_
    rw [q_total_bad _ hv]
    refine x_bipush (v := (-2 : Int32)) hO dL_refusesAny_403 rfl ?_
    refine x_icmp_ne (tgt := 412) hO dL_refusesAny_405 (by decide) (fun c => absurd rfl c) (fun _ => ?_)
    refine x_iconst (v := nI 1) hO dL_refusesAny_408 rfl ?_
    refine x_goto (tgt := 413) hO dL_refusesAny_409 (by decide) ?_
    refine x_istore (n := 8) hO dL_refusesAny_413 rfl (by decide) hN ?_
    refine x_iload hO dL_refusesAny_415 rfl ?_
    refine x_if_eq (tgt := 573) hO dL_refusesAny_417 (by decide) (fun c => absurd c (nI_ne0 (by decide) (by decide))) (fun _ => ?_)
    refine x_aload_n hO dL_refusesAny_420 rfl rfl ?_
    refine x_iload hO dL_refusesAny_421 rfl ?_
    refine x_callV1 hO (kc_ruleIn U M h slot) dL_refusesAny_423 lkL_19 fX3_ruleIn vX3_ruleIn (by decide) rfl rfl rfl rfl rfl (by decide) (Nat.le_of_ble_eq_true rfl) ?_
    rw [q_in_bad _ 0 hslot]
    refine x_iconst (v := (-1 : Int32)) hO dL_refusesAny_426 rfl ?_
    refine x_icmp_ne (tgt := 573) hO dL_refusesAny_427 (by decide) (fun c => absurd rfl c) (fun _ => ?_)
    refine x_aload_n hO dL_refusesAny_430 rfl rfl ?_
    refine x_iload hO dL_refusesAny_431 rfl ?_
    refine x_callV1 hO (kc_maskIn U M h slot) dL_refusesAny_433 lkL_22 fX3_maskIn vX3_maskIn (by decide) rfl rfl rfl rfl rfl (by decide) (Nat.le_of_ble_eq_true rfl) ?_
    rw [q_in_bad _ 2 hslot]
    refine x_iconst (v := (-1 : Int32)) hO dL_refusesAny_436 rfl ?_
    refine x_icmp_ne (tgt := 573) hO dL_refusesAny_437 (by decide) (fun c => absurd rfl c) (fun _ => ?_)
    refine x_aload_n hO dL_refusesAny_440 rfl rfl ?_
    refine x_iload hO dL_refusesAny_441 rfl ?_
    refine x_callV1 hO (kc_valueIn U M h slot) dL_refusesAny_443 lkL_25 fX3_valueIn vX3_valueIn (by decide) rfl rfl rfl rfl rfl (by decide) (Nat.le_of_ble_eq_true rfl) ?_
    rw [q_in_bad _ 3 hslot]
    refine x_iconst (v := (-1 : Int32)) hO dL_refusesAny_446 rfl ?_
    refine x_icmp_ne (tgt := 573) hO dL_refusesAny_447 (by decide) (fun c => absurd rfl c) (fun _ => ?_)
    refine x_aload_n hO dL_refusesAny_450 rfl rfl ?_
    refine x_iload hO dL_refusesAny_451 rfl ?_
    refine x_callV1 hO (kc_sortIn U M h slot) dL_refusesAny_453 lkL_78 fX3_sortIn vX3_sortIn (by decide) rfl rfl rfl rfl rfl (by decide) (Nat.le_of_ble_eq_true rfl) ?_
    rw [q_sort_bad _ hslot]
    refine x_iconst (v := (-1 : Int32)) hO dL_refusesAny_456 rfl ?_
    refine x_icmp_ne (tgt := 573) hO dL_refusesAny_457 (by decide) (fun c => absurd rfl c) (fun _ => ?_)
    refine x_aload_n hO dL_refusesAny_460 rfl rfl ?_
    refine x_iload hO dL_refusesAny_461 rfl ?_
    refine x_callV1 hO (kc_hiddenBy U M h slot) dL_refusesAny_463 lkL_81 fX3_hiddenBy vX3_hiddenBy (by decide) rfl rfl rfl rfl rfl (by decide) (Nat.le_of_ble_eq_true rfl) ?_
    rw [q_hid_bad _ hslot]
    refine x_iconst (v := (-1 : Int32)) hO dL_refusesAny_466 rfl ?_
    refine x_icmp_ne (tgt := 573) hO dL_refusesAny_467 (by decide) (fun c => absurd rfl c) (fun _ => ?_)
    refine x_aload_n hO dL_refusesAny_470 rfl rfl ?_
    refine x_iload hO dL_refusesAny_471 rfl ?_
    refine x_callV1 hO (kc_keysFor U M h slot) dL_refusesAny_473 lkL_47 fX3_keysFor vX3_keysFor (by decide) rfl rfl rfl rfl rfl (by decide) (Nat.le_of_ble_eq_true rfl) ?_
    rw [q_keys_bad _ hslot]
    refine x_iconst (v := (-1 : Int32)) hO dL_refusesAny_476 rfl ?_
    refine x_icmp_ne (tgt := 573) hO dL_refusesAny_477 (by decide) (fun c => absurd rfl c) (fun _ => ?_)
    refine x_aload_n hO dL_refusesAny_480 rfl rfl ?_
    refine x_iload hO dL_refusesAny_481 rfl ?_
    refine x_iconst (v := nI 0) hO dL_refusesAny_483 rfl ?_
    refine x_callV1 hO (kc_slotOf U M h no (nI 0)) dL_refusesAny_484 lkL_41 fX3_slotOf vX3_slotOf (by decide) rfl rfl rfl rfl rfl (by decide) (Nat.le_of_ble_eq_true rfl) ?_
    rw [q_slot_bad _ hno]
    refine x_iconst (v := (-1 : Int32)) hO dL_refusesAny_487 rfl ?_
    refine x_icmp_ne (tgt := 573) hO dL_refusesAny_488 (by decide) (fun c => absurd rfl c) (fun _ => ?_)
    refine x_aload_n hO dL_refusesAny_491 rfl rfl ?_
    refine x_iload hO dL_refusesAny_492 rfl ?_
    refine x_callV1 hO (kc_parts U M h no) dL_refusesAny_494 lkL_38 fX3_parts vX3_parts (by decide) rfl rfl rfl rfl rfl (by decide) (Nat.le_of_ble_eq_true rfl) ?_
    rw [q_parts_0 hno]
    refine x_iconst (v := (-1 : Int32)) hO dL_refusesAny_497 rfl ?_
    refine x_icmp_ne (tgt := 573) hO dL_refusesAny_498 (by decide) (fun c => absurd rfl c) (fun _ => ?_)
    refine x_aload_n hO dL_refusesAny_501 rfl rfl ?_
    refine x_iload hO dL_refusesAny_502 rfl ?_
    refine x_callV1 hO (kc_rank U M h no) dL_refusesAny_504 lkL_32 fX3_rank vX3_rank (by decide) rfl rfl rfl rfl rfl (by decide) (Nat.le_of_ble_eq_true rfl) ?_
    rw [q_of_bad 4 hno]
    refine x_iconst (v := (-1 : Int32)) hO dL_refusesAny_507 rfl ?_
    refine x_icmp_ne (tgt := 573) hO dL_refusesAny_508 (by decide) (fun c => absurd rfl c) (fun _ => ?_)
    refine x_aload_n hO dL_refusesAny_511 rfl rfl ?_
    refine x_iload hO dL_refusesAny_512 rfl ?_
    refine x_callV1 hO (kc_action U M h no) dL_refusesAny_514 lkL_29 fX3_action vX3_action (by decide) rfl rfl rfl rfl rfl (by decide) (Nat.le_of_ble_eq_true rfl) ?_
    rw [q_of_bad 5 hno]
    refine x_iconst (v := (-1 : Int32)) hO dL_refusesAny_517 rfl ?_
    refine x_icmp_ne (tgt := 573) hO dL_refusesAny_518 (by decide) (fun c => absurd rfl c) (fun _ => ?_)
    refine x_aload_n hO dL_refusesAny_521 rfl rfl ?_
    refine x_iload hO dL_refusesAny_522 rfl ?_
    refine x_callV1 hO (kc_hits U M h no) dL_refusesAny_524 lkL_35 fX3_hits vX3_hits (by decide) rfl rfl rfl rfl rfl (by decide) (Nat.le_of_ble_eq_true rfl) ?_
    rw [q_of_bad 6 hno]
    refine x_iconst (v := (-1 : Int32)) hO dL_refusesAny_527 rfl ?_
    refine x_icmp_ne (tgt := 573) hO dL_refusesAny_528 (by decide) (fun c => absurd rfl c) (fun _ => ?_)
    suffices kk : ∀ v : Int32, ixB v 4 = false → XW U G 543 [some (.inr 0), some (.inl (nI x)), some (.inl far), some (.inl rk), some (.inl act), some (.inl no), some (.inl slot), some (.inl (nI 1))] [.inl v, .inr 0] M by
      refine x_aload_n hO dL_refusesAny_531 rfl rfl ?_
      refine x_iload_n hO dL_refusesAny_532 rfl rfl ?_
      refine x_iconst (v := nI 2) hO dL_refusesAny_533 rfl ?_
      refine x_iremN hO hx (by decide) (by decide) dL_refusesAny_534 ?_
      refine x_if_ne (tgt := 542) hO dL_refusesAny_535 (by decide) (fun ce => ?_) (fun ce => ?_)
      · refine x_iconst (v := nI 4) hO dL_refusesAny_542 rfl ?_
        exact kk _ (by decide)
      · refine x_iconst (v := (-1 : Int32)) hO dL_refusesAny_538 rfl ?_
        refine x_goto (tgt := 543) hO dL_refusesAny_539 (by decide) ?_
        exact kk _ (by decide)
    intro v hv
    refine x_callV1 hO (kc_filterMask U M h v) dL_refusesAny_543 lkL_84 fX3_filterMask vX3_filterMask (by decide) rfl rfl rfl rfl rfl (by decide) (Nat.le_of_ble_eq_true rfl) ?_
    rw [q_fm_bad _ hv]
    refine x_iconst (v := (-1 : Int32)) hO dL_refusesAny_546 rfl ?_
    refine x_icmp_ne (tgt := 573) hO dL_refusesAny_547 (by decide) (fun c => absurd rfl c) (fun _ => ?_)
    suffices kk : ∀ v : Int32, ixB v 4 = false → XW U G 562 [some (.inr 0), some (.inl (nI x)), some (.inl far), some (.inl rk), some (.inl act), some (.inl no), some (.inl slot), some (.inl (nI 1))] [.inl v, .inr 0] M by
      refine x_aload_n hO dL_refusesAny_550 rfl rfl ?_
      refine x_iload_n hO dL_refusesAny_551 rfl rfl ?_
      refine x_iconst (v := nI 2) hO dL_refusesAny_552 rfl ?_
      refine x_iremN hO hx (by decide) (by decide) dL_refusesAny_553 ?_
      refine x_if_ne (tgt := 561) hO dL_refusesAny_554 (by decide) (fun ce => ?_) (fun ce => ?_)
      · refine x_iconst (v := nI 4) hO dL_refusesAny_561 rfl ?_
        exact kk _ (by decide)
      · refine x_iconst (v := (-1 : Int32)) hO dL_refusesAny_557 rfl ?_
        refine x_goto (tgt := 562) hO dL_refusesAny_558 (by decide) ?_
        exact kk _ (by decide)
    intro v hv
    refine x_callV1 hO (kc_filterValue U M h v) dL_refusesAny_562 lkL_87 fX3_filterValue vX3_filterValue (by decide) rfl rfl rfl rfl rfl (by decide) (Nat.le_of_ble_eq_true rfl) ?_
    rw [q_fv_bad _ hv]
    refine x_iconst (v := (-1 : Int32)) hO dL_refusesAny_565 rfl ?_
    refine x_icmp_ne (tgt := 573) hO dL_refusesAny_566 (by decide) (fun c => absurd rfl c) (fun _ => ?_)
    refine x_iconst (v := nI 1) hO dL_refusesAny_569 rfl ?_
    refine x_goto (tgt := 574) hO dL_refusesAny_570 (by decide) ?_
    refine x_istore (n := 8) hO dL_refusesAny_574 rfl (by decide) hN ?_
    refine x_iload hO dL_refusesAny_576 rfl ?_
    refine x_if_eq (tgt := 633) hO dL_refusesAny_578 (by decide) (fun c => absurd c (nI_ne0 (by decide) (by decide))) (fun _ => ?_)
    refine x_aload_n hO dL_refusesAny_581 rfl rfl ?_
    refine x_iconst (v := nI 0) hO dL_refusesAny_582 rfl ?_
    refine x_callV1 hO (kc_total U M h (nI 0)) dL_refusesAny_583 lkL_13 fX3_total vX3_total (by decide) rfl rfl rfl rfl rfl (by decide) (Nat.le_of_ble_eq_true rfl) ?_
    rw [q_total_0]
    refine x_bipush (v := nI 32) hO dL_refusesAny_586 rfl ?_
    have j629 : ∀ M, RC M s → XW U G 629 [some (.inr 0), some (.inl (nI x)), some (.inl far), some (.inl rk), some (.inl act), some (.inl no), some (.inl slot), some (.inl (nI 1))] [] M := by
      intro M h
      refine x_iconst (v := nI 1) hO dL_refusesAny_629 rfl ?_
      refine x_goto (tgt := 634) hO dL_refusesAny_630 (by decide) ?_
      refine x_iret hO hR dL_refusesAny_634 rfl ?_
      exact ⟨rfl, h⟩
    by_cases q : aCnt s.1.1 = 32
    · refine x_icmp_lt (tgt := 629) hO dL_refusesAny_588 (by decide) (fun c => absurd c (by rw [q]; decide)) (fun _ => ?_)
      refine x_aload_n hO dL_refusesAny_591 rfl rfl ?_
      refine x_iconst (v := nI 0) hO dL_refusesAny_592 rfl ?_
      refine x_iconst (v := nI 0) hO dL_refusesAny_593 rfl ?_
      refine x_iconst (v := nI 0) hO dL_refusesAny_594 rfl ?_
      refine x_iconst (v := nI 0) hO dL_refusesAny_595 rfl ?_
      refine x_callV hO (poC_no (kc_addRule U M h hr (nI 0) (nI 0) (nI 0) (nI 0)) (by rw [o_addRule_at s (by decide) (by decide) (by decide) (by decide), if_pos q])) dL_refusesAny_596 lkL_56 fX3_addRule vX3_addRule (by decide) rfl rfl rfl rfl rfl (by decide) (Nat.le_of_ble_eq_true rfl) (fun r M p1 => ?_)
      obtain ⟨rfl, h⟩ := p1
      refine x_bipush (v := (-3 : Int32)) hO dL_refusesAny_599 rfl ?_
      refine x_icmp_ne (tgt := 633) hO dL_refusesAny_601 (by decide) (fun c => absurd rfl c) (fun _ => ?_)
      refine x_aload_n hO dL_refusesAny_604 rfl rfl ?_
      refine x_iconst (v := nI 0) hO dL_refusesAny_605 rfl ?_
      refine x_iconst (v := nI 0) hO dL_refusesAny_606 rfl ?_
      refine x_bipush (v := nI 99) hO dL_refusesAny_607 rfl ?_
      refine x_bipush (v := nI 9) hO dL_refusesAny_609 rfl ?_
      refine x_callV hO (poC_no (kc_addRange U M h hr (nI 0) (nI 0) (nI 99) (nI 9)) (by rw [o_addRange_at s (Nat.le_refl _) (by decide) (by decide) (by decide), if_pos (by rw [q]; decide)])) dL_refusesAny_611 lkL_60 fX3_addRange vX3_addRange (by decide) rfl rfl rfl rfl rfl (by decide) (Nat.le_of_ble_eq_true rfl) (fun r M p1 => ?_)
      obtain ⟨rfl, h⟩ := p1
      refine x_bipush (v := (-3 : Int32)) hO dL_refusesAny_614 rfl ?_
      refine x_icmp_ne (tgt := 633) hO dL_refusesAny_616 (by decide) (fun c => absurd rfl c) (fun _ => ?_)
      refine x_aload_n hO dL_refusesAny_619 rfl rfl ?_
      refine x_iconst (v := nI 0) hO dL_refusesAny_620 rfl ?_
      refine x_callV1 hO (kc_wouldMove U M h (nI 0)) dL_refusesAny_621 lkL_72 fX3_wouldMove vX3_wouldMove (by decide) rfl rfl rfl rfl rfl (by decide) (Nat.le_of_ble_eq_true rfl) ?_
      rw [q_wm_at (by decide), if_pos q]
      refine x_bipush (v := (-3 : Int32)) hO dL_refusesAny_624 rfl ?_
      refine x_icmp_ne (tgt := 633) hO dL_refusesAny_626 (by decide) (fun c => absurd rfl c) (fun _ => ?_)
      exact j629 M h
    · refine x_icmp_lt (tgt := 629) hO dL_refusesAny_588 (by decide) (fun _ => ?_) (fun c => absurd (nI_lt (by omega) (by decide)) c)
      exact j629 M h
  by_cases hp : x % 2 = 0
  · refine x_iload_n hO dL_refusesAny_0 rfl rfl ?_
    refine x_iconst (v := nI 2) hO dL_refusesAny_1 rfl ?_
    refine x_iremN hO hx (by decide) (by decide) dL_refusesAny_2 ?_
    rw [hp]
    refine x_if_ne (tgt := 16) hO dL_refusesAny_3 (by decide) (fun c => absurd (rfl) c) (fun _ => ?_)
    refine x_iconst (v := (-1 : Int32)) hO dL_refusesAny_6 rfl ?_
    refine x_iload_n hO dL_refusesAny_7 rfl rfl ?_
    refine x_sipush (v := nI 300) hO dL_refusesAny_8 rfl ?_
    refine x_iremN hO hx (by decide) (by decide) dL_refusesAny_11 ?_
    refine x_isub hO dL_refusesAny_12 ?_
    refine x_goto (tgt := 25) hO dL_refusesAny_13 (by decide) ?_
    refine x_istore_n (n := 8) hO dL_refusesAny_25 rfl rfl (by decide) hN ?_
    refine x_iload_n hO dL_refusesAny_26 rfl rfl ?_
    refine x_iconst (v := nI 2) hO dL_refusesAny_27 rfl ?_
    refine x_iremN hO hx (by decide) (by decide) dL_refusesAny_28 ?_
    rw [hp]
    refine x_if_ne (tgt := 42) hO dL_refusesAny_29 (by decide) (fun c => absurd (rfl) c) (fun _ => ?_)
    refine x_iconst (v := (-1 : Int32)) hO dL_refusesAny_32 rfl ?_
    refine x_iload_n hO dL_refusesAny_33 rfl rfl ?_
    refine x_sipush (v := nI 300) hO dL_refusesAny_34 rfl ?_
    refine x_iremN hO hx (by decide) (by decide) dL_refusesAny_37 ?_
    refine x_isub hO dL_refusesAny_38 ?_
    refine x_goto (tgt := 50) hO dL_refusesAny_39 (by decide) ?_
    refine x_istore_n (n := 8) hO dL_refusesAny_50 rfl rfl (by decide) hN ?_
    refine x_iload_n hO dL_refusesAny_51 rfl rfl ?_
    refine x_iconst (v := nI 2) hO dL_refusesAny_52 rfl ?_
    refine x_iremN hO hx (by decide) (by decide) dL_refusesAny_53 ?_
    rw [hp]
    refine x_if_ne (tgt := 67) hO dL_refusesAny_54 (by decide) (fun c => absurd (rfl) c) (fun _ => ?_)
    refine x_iconst (v := (-1 : Int32)) hO dL_refusesAny_57 rfl ?_
    refine x_iload_n hO dL_refusesAny_58 rfl rfl ?_
    refine x_sipush (v := nI 300) hO dL_refusesAny_59 rfl ?_
    refine x_iremN hO hx (by decide) (by decide) dL_refusesAny_62 ?_
    refine x_isub hO dL_refusesAny_63 ?_
    refine x_goto (tgt := 75) hO dL_refusesAny_64 (by decide) ?_
    refine x_istore (n := 8) hO dL_refusesAny_75 rfl (by decide) hN ?_
    refine x_iload_n hO dL_refusesAny_77 rfl rfl ?_
    refine x_iconst (v := nI 2) hO dL_refusesAny_78 rfl ?_
    refine x_iremN hO hx (by decide) (by decide) dL_refusesAny_79 ?_
    rw [hp]
    refine x_if_ne (tgt := 93) hO dL_refusesAny_80 (by decide) (fun c => absurd (rfl) c) (fun _ => ?_)
    refine x_iconst (v := (-1 : Int32)) hO dL_refusesAny_83 rfl ?_
    refine x_iload_n hO dL_refusesAny_84 rfl rfl ?_
    refine x_sipush (v := nI 300) hO dL_refusesAny_85 rfl ?_
    refine x_iremN hO hx (by decide) (by decide) dL_refusesAny_88 ?_
    refine x_isub hO dL_refusesAny_89 ?_
    refine x_goto (tgt := 104) hO dL_refusesAny_90 (by decide) ?_
    refine x_istore (n := 8) hO dL_refusesAny_104 rfl (by decide) hN ?_
    refine x_iload_n hO dL_refusesAny_106 rfl rfl ?_
    refine x_iconst (v := nI 2) hO dL_refusesAny_107 rfl ?_
    refine x_iremN hO hx (by decide) (by decide) dL_refusesAny_108 ?_
    rw [hp]
    refine x_if_ne (tgt := 122) hO dL_refusesAny_109 (by decide) (fun c => absurd (rfl) c) (fun _ => ?_)
    refine x_iconst (v := (-1 : Int32)) hO dL_refusesAny_112 rfl ?_
    refine x_iload_n hO dL_refusesAny_113 rfl rfl ?_
    refine x_sipush (v := nI 300) hO dL_refusesAny_114 rfl ?_
    refine x_iremN hO hx (by decide) (by decide) dL_refusesAny_117 ?_
    refine x_isub hO dL_refusesAny_118 ?_
    refine x_goto (tgt := 130) hO dL_refusesAny_119 (by decide) ?_
    refine x_istore (n := 8) hO dL_refusesAny_130 rfl (by decide) hN ?_
    have hq := neg_q (x % 300) (by omega)
    exact main M _ _ _ _ _ h (ixB_lo hq) (ixB_lo hq) (ixB_lo hq) (no_rule w (by omega) (fun n hn => neg_ne hq (by omega))) (ixB_lo hq)
  · refine x_iload_n hO dL_refusesAny_0 rfl rfl ?_
    refine x_iconst (v := nI 2) hO dL_refusesAny_1 rfl ?_
    refine x_iremN hO hx (by decide) (by decide) dL_refusesAny_2 ?_
    refine x_if_ne (tgt := 16) hO dL_refusesAny_3 (by decide) (fun _ => ?_) (fun c => absurd c (nI_ne0 (by omega) (by omega)))
    refine x_sipush (v := nI 256) hO dL_refusesAny_16 rfl ?_
    refine x_iload_n hO dL_refusesAny_19 rfl rfl ?_
    refine x_sipush (v := nI 300) hO dL_refusesAny_20 rfl ?_
    refine x_iremN hO hx (by decide) (by decide) dL_refusesAny_23 ?_
    refine x_iadd hO dL_refusesAny_24 ?_
    rw [nI_add]
    refine x_istore_n (n := 8) hO dL_refusesAny_25 rfl rfl (by decide) hN ?_
    refine x_iload_n hO dL_refusesAny_26 rfl rfl ?_
    refine x_iconst (v := nI 2) hO dL_refusesAny_27 rfl ?_
    refine x_iremN hO hx (by decide) (by decide) dL_refusesAny_28 ?_
    refine x_if_ne (tgt := 42) hO dL_refusesAny_29 (by decide) (fun _ => ?_) (fun c => absurd c (nI_ne0 (by omega) (by omega)))
    refine x_bipush (v := nI 100) hO dL_refusesAny_42 rfl ?_
    refine x_iload_n hO dL_refusesAny_44 rfl rfl ?_
    refine x_sipush (v := nI 300) hO dL_refusesAny_45 rfl ?_
    refine x_iremN hO hx (by decide) (by decide) dL_refusesAny_48 ?_
    refine x_iadd hO dL_refusesAny_49 ?_
    rw [nI_add]
    refine x_istore_n (n := 8) hO dL_refusesAny_50 rfl rfl (by decide) hN ?_
    refine x_iload_n hO dL_refusesAny_51 rfl rfl ?_
    refine x_iconst (v := nI 2) hO dL_refusesAny_52 rfl ?_
    refine x_iremN hO hx (by decide) (by decide) dL_refusesAny_53 ?_
    refine x_if_ne (tgt := 67) hO dL_refusesAny_54 (by decide) (fun _ => ?_) (fun c => absurd c (nI_ne0 (by omega) (by omega)))
    refine x_bipush (v := nI 10) hO dL_refusesAny_67 rfl ?_
    refine x_iload_n hO dL_refusesAny_69 rfl rfl ?_
    refine x_sipush (v := nI 300) hO dL_refusesAny_70 rfl ?_
    refine x_iremN hO hx (by decide) (by decide) dL_refusesAny_73 ?_
    refine x_iadd hO dL_refusesAny_74 ?_
    rw [nI_add]
    refine x_istore (n := 8) hO dL_refusesAny_75 rfl (by decide) hN ?_
    refine x_iload_n hO dL_refusesAny_77 rfl rfl ?_
    refine x_iconst (v := nI 2) hO dL_refusesAny_78 rfl ?_
    refine x_iremN hO hx (by decide) (by decide) dL_refusesAny_79 ?_
    refine x_if_ne (tgt := 93) hO dL_refusesAny_80 (by decide) (fun _ => ?_) (fun c => absurd c (nI_ne0 (by omega) (by omega)))
    refine x_aload_n hO dL_refusesAny_93 rfl rfl ?_
    refine x_iconst (v := nI 2) hO dL_refusesAny_94 rfl ?_
    refine x_callV1 hO (kc_total U M h (nI 2)) dL_refusesAny_95 lkL_13 fX3_total vX3_total (by decide) rfl rfl rfl rfl rfl (by decide) (Nat.le_of_ble_eq_true rfl) ?_
    rw [q_total_2, e0]
    refine x_iload_n hO dL_refusesAny_98 rfl rfl ?_
    refine x_sipush (v := nI 300) hO dL_refusesAny_99 rfl ?_
    refine x_iremN hO hx (by decide) (by decide) dL_refusesAny_102 ?_
    refine x_iadd hO dL_refusesAny_103 ?_
    rw [nI_add]
    refine x_istore (n := 8) hO dL_refusesAny_104 rfl (by decide) hN ?_
    refine x_iload_n hO dL_refusesAny_106 rfl rfl ?_
    refine x_iconst (v := nI 2) hO dL_refusesAny_107 rfl ?_
    refine x_iremN hO hx (by decide) (by decide) dL_refusesAny_108 ?_
    refine x_if_ne (tgt := 122) hO dL_refusesAny_109 (by decide) (fun _ => ?_) (fun c => absurd c (nI_ne0 (by omega) (by omega)))
    refine x_bipush (v := nI 32) hO dL_refusesAny_122 rfl ?_
    refine x_iload_n hO dL_refusesAny_124 rfl rfl ?_
    refine x_sipush (v := nI 300) hO dL_refusesAny_125 rfl ?_
    refine x_iremN hO hx (by decide) (by decide) dL_refusesAny_128 ?_
    refine x_iadd hO dL_refusesAny_129 ?_
    rw [nI_add]
    refine x_istore (n := 8) hO dL_refusesAny_130 rfl (by decide) hN ?_
    exact main M _ _ _ _ _ h (ixB_hi (nI_le (by omega) (by omega))) (ixB_hi (nI_le (by omega) (by omega))) (ixB_hi (nI_le (by omega) (by omega))) (no_rule w (by omega) (fun n hn e => by
      have := (nI_eq (by omega) (by omega)).mp e
      omega)) (ixB_hi (nI_le (by omega) (by omega)))
