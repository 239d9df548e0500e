/-! ===== the law's walk in the small machine; its script is the cell 64 ===== -/
def xSc (U : xP) (G : xG) (n : Nat) (xs : Nat → Int32) : Prop := match G with
  | (p, e, R, s, m, args, below, meth, c, A0, nL, cs, sl, Q) => va_X (xad U 64) n xs s s.heap ∧ xad U 64 < s.heap.size ∧ ¬ A0 (xad U 64)
theorem x_sld {U : xP} {G : xG} {own : String} {cc : ByteArray} {K pc : Nat} {L : List (Option xV)} {st : List xV} {M : xM} (hO : xOK U G own cc K) {n j : Nat} {xs : Nat → Int32} {i : Int32} (hX : xSc U G n xs) (hi : i = nI j) (hj : j < n) (hn : n < 2 ^ 31) (hd : decode cc pc = .ok (.iaload, 1)) (kk : XW U G (pc + 1) L (.inl (xs j) :: st) M) : XW U G pc L (.inl i :: .inr 64 :: st) M := by
  subst hi
  obtain ⟨p, e, R, s, m, args, below, meth, c, A0, nL, cs, sl, Q⟩ := G
  intro H locs ls hP hS hL
  refine va_sld hO.1 hO.2.1 hX.1 hX.2.1 hX.2.2 hS (vp_in_nI hj hn) hd ?_
  rw [nI_clamp (by omega)]
  exact kk H locs ls hP hS hL
theorem x_slen {U : xP} {G : xG} {own : String} {cc : ByteArray} {K pc : Nat} {L : List (Option xV)} {st : List xV} {M : xM} (hO : xOK U G own cc K) {n : Nat} {xs : Nat → Int32} (hX : xSc U G n xs) (hd : decode cc pc = .ok (.arraylength, 1)) (kk : XW U G (pc + 1) L (.inl (nI n) :: st) M) : XW U G pc L (.inr 64 :: st) M := by
  obtain ⟨p, e, R, s, m, args, below, meth, c, A0, nL, cs, sl, Q⟩ := G
  intro H locs ls hP hS hL
  exact va_slen hO.1 hO.2.1 hX.1 hX.2.1 hX.2.2 hS hd (kk H locs ls hP hS hL)
theorem and31 (x : Int32) : ∃ c : Nat, c < 32 ∧ x &&& nI 31 = nI c := by
  have l : x.toBitVec.toNat &&& 31 ≤ 31 := Nat.and_le_right
  refine ⟨x.toBitVec.toNat &&& 31, by omega, ?_⟩
  apply Int32.toBitVec_inj.mp
  apply BitVec.eq_of_toNat_eq
  rw [Int32.toBitVec_and, BitVec.toNat_and, pk_tn (by decide : 31 < 2 ^ 32), pk_tn (by omega)]
theorem RM.fr {M M' : xM} {s : aO} (h : RM M s) (f : frC M M') : RM M' s := by
  obtain ⟨h1, h2, ⟨c0, h4, h6, h7⟩, n, h8, h9, h10⟩ := h
  have s10 : (nA M', nG M') = (nA M, nG M) := smC_eq (M := M) (M' := M') (c := 10) (c' := 10) (o := 0) (o' := 0) (fun t _ => by rw [f 10 (by decide) (by decide)])
  have s13 : smC M' 13 0 = smC M 13 0 := smC_eq (fun t _ => by rw [f 13 (by decide) (by decide)])
  have s12 : ∀ o, smC M' 12 o = smC M 12 o := fun o => smC_eq (fun t _ => by rw [f 12 (by decide) (by decide)])
  have e9 : M' 9 = M 9 := f 9 (by decide) (by decide)
  refine ⟨s10.trans h1, ?_, ⟨c0, h4, by rw [e9]; exact h6, ?_⟩, n, h8, by rw [e9]; exact h9, ?_⟩
  · rw [e9, s13]
    exact h2
  · simp only [s12]
    exact h7
  · rw [f 14 (by decide) (by decide)]
    exact h10
theorem RC.fr {M M' : xM} {s : aO} (h : RC M s) (f : frM M M') : RC M' s := by
  obtain ⟨h1, h2, ⟨o, c, h3, h4, h5, h6, h7⟩, n, h8, h9, h10⟩ := h
  have eb : ∀ i, stC M' (hb o i) = stC M (hb o i) := fun i => stC_fr (fun k a _ => f k (by unfold hb at a; omega))
  refine ⟨?_, ?_, ⟨o, c, h3, h4, by rw [f 1 (by omega)]; exact h5, by rw [f 1 (by omega)]; exact h6, ?_⟩, n, h8, by rw [f 3 (by omega)]; exact h9, by rw [f 4 (by omega)]; exact h10⟩
  · rw [stC_fr (M := M) (M' := M') (b := 16) (fun k _ _ => f k (by omega))]
    exact h1
  · rw [f 0 (by omega), stC_fr (M := M) (M' := M') (b := 24) (fun k _ _ => f k (by omega))]
    exact h2
  · simp only [eb]
    exact h7
theorem xL_addRule {U : xP} {G : xG} (hO : xOK U G RL cL_law 9) {n i : Nat} {xs : Nat → Int32} (hX : xSc U G n xs) (hi : i + 5 ≤ n) (hn : n ≤ 2560) {s : aO} {M : xM} (hC : RC M s) (hM : RM M s) (hW : WfO s i) (next : ∀ M1 s1, RC M1 s1 → RM M1 s1 → WfO s1 (i + 5) → XW U G 897 [some (.inr 64), some (.inr 0), some (.inr 9), some (.inl (nI i))] [] M1) : XW U G 172 [some (.inr 64), some (.inr 0), some (.inr 9), some (.inl (nI i))] [] M := by
  obtain ⟨⟨a, la, ea, -⟩, -⟩ := id hW
  have hr : s.1.2 1 ≠ -1 := by rw [ea]; exact nI_m1 (by omega)
  refine x_aload_n hO dL_law_172 rfl rfl ?_
  refine x_aload_n hO dL_law_173 rfl rfl ?_
  refine x_iload_n hO dL_law_174 rfl rfl ?_
  refine x_iconst (v := nI 1) hO dL_law_175 rfl ?_
  refine x_iadd hO dL_law_176 ?_
  refine x_sld hO hX (nI_add _ _) (by omega) (by omega) dL_law_177 ?_
  refine x_aload_n hO dL_law_178 rfl rfl ?_
  refine x_iload_n hO dL_law_179 rfl rfl ?_
  refine x_iconst (v := nI 2) hO dL_law_180 rfl ?_
  refine x_iadd hO dL_law_181 ?_
  refine x_sld hO hX (nI_add _ _) (by omega) (by omega) dL_law_182 ?_
  refine x_aload_n hO dL_law_183 rfl rfl ?_
  refine x_iload_n hO dL_law_184 rfl rfl ?_
  refine x_iconst (v := nI 3) hO dL_law_185 rfl ?_
  refine x_iadd hO dL_law_186 ?_
  refine x_sld hO hX (nI_add _ _) (by omega) (by omega) dL_law_187 ?_
  refine x_aload_n hO dL_law_188 rfl rfl ?_
  refine x_iload_n hO dL_law_189 rfl rfl ?_
  refine x_iconst (v := nI 4) hO dL_law_190 rfl ?_
  refine x_iadd hO dL_law_191 ?_
  refine x_sld hO hX (nI_add _ _) (by omega) (by omega) dL_law_192 ?_
  refine x_callV hO (kc_addRule U M hC (hr) (xs (i + 1)) (xs (i + 2)) (xs (i + 3)) (xs (i + 4))) dL_law_193 lkL_13 fX3_addRule vX3_addRule (by decide) rfl rfl rfl rfl rfl (by decide) (Nat.le_of_ble_eq_true rfl) (fun r1 M1 p1 => ?_)
  obtain ⟨rfl, hC1, f1⟩ := p1
  have hM1 := hM.fr f1
  refine x_aload_n hO dL_law_196 rfl rfl ?_
  refine x_aload_n hO dL_law_197 rfl rfl ?_
  refine x_iload_n hO dL_law_198 rfl rfl ?_
  refine x_iconst (v := nI 1) hO dL_law_199 rfl ?_
  refine x_iadd hO dL_law_200 ?_
  refine x_sld hO hX (nI_add _ _) (by omega) (by omega) dL_law_201 ?_
  refine x_aload_n hO dL_law_202 rfl rfl ?_
  refine x_iload_n hO dL_law_203 rfl rfl ?_
  refine x_iconst (v := nI 2) hO dL_law_204 rfl ?_
  refine x_iadd hO dL_law_205 ?_
  refine x_sld hO hX (nI_add _ _) (by omega) (by omega) dL_law_206 ?_
  refine x_aload_n hO dL_law_207 rfl rfl ?_
  refine x_iload_n hO dL_law_208 rfl rfl ?_
  refine x_iconst (v := nI 3) hO dL_law_209 rfl ?_
  refine x_iadd hO dL_law_210 ?_
  refine x_sld hO hX (nI_add _ _) (by omega) (by omega) dL_law_211 ?_
  refine x_aload_n hO dL_law_212 rfl rfl ?_
  refine x_iload_n hO dL_law_213 rfl rfl ?_
  refine x_iconst (v := nI 4) hO dL_law_214 rfl ?_
  refine x_iadd hO dL_law_215 ?_
  refine x_sld hO hX (nI_add _ _) (by omega) (by omega) dL_law_216 ?_
  refine x_callV hO (km_addRule U M1 hM1 hW (by omega) (xs (i + 1)) (xs (i + 2)) (xs (i + 3)) (xs (i + 4))) dL_law_217 lkL_17 fX4_addRule vX4_addRule (by decide) rfl rfl rfl rfl rfl (by decide) (Nat.le_of_ble_eq_true rfl) (fun r2 M2 p2 => ?_)
  obtain ⟨rfl, hM2, f2⟩ := p2
  have hC2 := hC1.fr f2
  exact x_icmp_eq (tgt := 897) hO dL_law_220 (by decide) (fun _ => next _ _ hC2 hM2 (wf_addRule hW (by omega) _ _ _ _)) (fun z => absurd rfl z)
theorem xL_addRange {U : xP} {G : xG} (hO : xOK U G RL cL_law 9) {n i : Nat} {xs : Nat → Int32} (hX : xSc U G n xs) (hi : i + 5 ≤ n) (hn : n ≤ 2560) {s : aO} {M : xM} (hC : RC M s) (hM : RM M s) (hW : WfO s i) (next : ∀ M1 s1, RC M1 s1 → RM M1 s1 → WfO s1 (i + 5) → XW U G 897 [some (.inr 64), some (.inr 0), some (.inr 9), some (.inl (nI i))] [] M1) : XW U G 225 [some (.inr 64), some (.inr 0), some (.inr 9), some (.inl (nI i))] [] M := by
  obtain ⟨⟨a, la, ea, -⟩, -⟩ := id hW
  have hr : s.1.2 1 ≠ -1 := by rw [ea]; exact nI_m1 (by omega)
  refine x_aload_n hO dL_law_225 rfl rfl ?_
  refine x_aload_n hO dL_law_226 rfl rfl ?_
  refine x_iload_n hO dL_law_227 rfl rfl ?_
  refine x_iconst (v := nI 1) hO dL_law_228 rfl ?_
  refine x_iadd hO dL_law_229 ?_
  refine x_sld hO hX (nI_add _ _) (by omega) (by omega) dL_law_230 ?_
  refine x_aload_n hO dL_law_231 rfl rfl ?_
  refine x_iload_n hO dL_law_232 rfl rfl ?_
  refine x_iconst (v := nI 2) hO dL_law_233 rfl ?_
  refine x_iadd hO dL_law_234 ?_
  refine x_sld hO hX (nI_add _ _) (by omega) (by omega) dL_law_235 ?_
  refine x_aload_n hO dL_law_236 rfl rfl ?_
  refine x_iload_n hO dL_law_237 rfl rfl ?_
  refine x_iconst (v := nI 3) hO dL_law_238 rfl ?_
  refine x_iadd hO dL_law_239 ?_
  refine x_sld hO hX (nI_add _ _) (by omega) (by omega) dL_law_240 ?_
  refine x_aload_n hO dL_law_241 rfl rfl ?_
  refine x_iload_n hO dL_law_242 rfl rfl ?_
  refine x_iconst (v := nI 4) hO dL_law_243 rfl ?_
  refine x_iadd hO dL_law_244 ?_
  refine x_sld hO hX (nI_add _ _) (by omega) (by omega) dL_law_245 ?_
  refine x_callV hO (kc_addRange U M hC (hr) (xs (i + 1)) (xs (i + 2)) (xs (i + 3)) (xs (i + 4))) dL_law_246 lkL_18 fX3_addRange vX3_addRange (by decide) rfl rfl rfl rfl rfl (by decide) (Nat.le_of_ble_eq_true rfl) (fun r1 M1 p1 => ?_)
  obtain ⟨rfl, hC1, f1⟩ := p1
  have hM1 := hM.fr f1
  refine x_aload_n hO dL_law_249 rfl rfl ?_
  refine x_aload_n hO dL_law_250 rfl rfl ?_
  refine x_iload_n hO dL_law_251 rfl rfl ?_
  refine x_iconst (v := nI 1) hO dL_law_252 rfl ?_
  refine x_iadd hO dL_law_253 ?_
  refine x_sld hO hX (nI_add _ _) (by omega) (by omega) dL_law_254 ?_
  refine x_aload_n hO dL_law_255 rfl rfl ?_
  refine x_iload_n hO dL_law_256 rfl rfl ?_
  refine x_iconst (v := nI 2) hO dL_law_257 rfl ?_
  refine x_iadd hO dL_law_258 ?_
  refine x_sld hO hX (nI_add _ _) (by omega) (by omega) dL_law_259 ?_
  refine x_aload_n hO dL_law_260 rfl rfl ?_
  refine x_iload_n hO dL_law_261 rfl rfl ?_
  refine x_iconst (v := nI 3) hO dL_law_262 rfl ?_
  refine x_iadd hO dL_law_263 ?_
  refine x_sld hO hX (nI_add _ _) (by omega) (by omega) dL_law_264 ?_
  refine x_aload_n hO dL_law_265 rfl rfl ?_
  refine x_iload_n hO dL_law_266 rfl rfl ?_
  refine x_iconst (v := nI 4) hO dL_law_267 rfl ?_
  refine x_iadd hO dL_law_268 ?_
  refine x_sld hO hX (nI_add _ _) (by omega) (by omega) dL_law_269 ?_
  refine x_callV hO (km_addRange U M1 hM1 hW (by omega) (xs (i + 1)) (xs (i + 2)) (xs (i + 3)) (xs (i + 4))) dL_law_270 lkL_21 fX4_addRange vX4_addRange (by decide) rfl rfl rfl rfl rfl (by decide) (Nat.le_of_ble_eq_true rfl) (fun r2 M2 p2 => ?_)
  obtain ⟨rfl, hM2, f2⟩ := p2
  have hC2 := hC1.fr f2
  exact x_icmp_eq (tgt := 897) hO dL_law_273 (by decide) (fun _ => next _ _ hC2 hM2 (wf_addRange hW (by omega) _ _ _ _)) (fun z => absurd rfl z)
theorem xL_remove {U : xP} {G : xG} (hO : xOK U G RL cL_law 9) {n i : Nat} {xs : Nat → Int32} (hX : xSc U G n xs) (hi : i + 5 ≤ n) (hn : n ≤ 2560) {s : aO} {M : xM} (hC : RC M s) (hM : RM M s) (hW : WfO s i) (next : ∀ M1 s1, RC M1 s1 → RM M1 s1 → WfO s1 (i + 5) → XW U G 897 [some (.inr 64), some (.inr 0), some (.inr 9), some (.inl (nI i))] [] M1) : XW U G 278 [some (.inr 64), some (.inr 0), some (.inr 9), some (.inl (nI i))] [] M := by
  obtain ⟨⟨a, la, ea, -⟩, -⟩ := id hW
  have hr : s.1.2 1 ≠ -1 := by rw [ea]; exact nI_m1 (by omega)
  refine x_aload_n hO dL_law_278 rfl rfl ?_
  refine x_aload_n hO dL_law_279 rfl rfl ?_
  refine x_iload_n hO dL_law_280 rfl rfl ?_
  refine x_iconst (v := nI 1) hO dL_law_281 rfl ?_
  refine x_iadd hO dL_law_282 ?_
  refine x_sld hO hX (nI_add _ _) (by omega) (by omega) dL_law_283 ?_
  refine x_callV hO (kc_remove U M hC (xs (i + 1))) dL_law_284 lkL_22 fX3_remove vX3_remove (by decide) rfl rfl rfl rfl rfl (by decide) (Nat.le_of_ble_eq_true rfl) (fun r1 M1 p1 => ?_)
  obtain ⟨rfl, hC1, f1⟩ := p1
  have hM1 := hM.fr f1
  refine x_aload_n hO dL_law_287 rfl rfl ?_
  refine x_aload_n hO dL_law_288 rfl rfl ?_
  refine x_iload_n hO dL_law_289 rfl rfl ?_
  refine x_iconst (v := nI 1) hO dL_law_290 rfl ?_
  refine x_iadd hO dL_law_291 ?_
  refine x_sld hO hX (nI_add _ _) (by omega) (by omega) dL_law_292 ?_
  refine x_callV hO (km_remove U M1 hM1 hW (xs (i + 1))) dL_law_293 lkL_26 fX4_remove vX4_remove (by decide) rfl rfl rfl rfl rfl (by decide) (Nat.le_of_ble_eq_true rfl) (fun r2 M2 p2 => ?_)
  obtain ⟨rfl, hM2, f2⟩ := p2
  have hC2 := hC1.fr f2
  exact x_icmp_eq (tgt := 897) hO dL_law_296 (by decide) (fun _ => next _ _ hC2 hM2 (wf_remove hW _)) (fun z => absurd rfl z)
theorem xL_setPlacing {U : xP} {G : xG} (hO : xOK U G RL cL_law 9) {n i : Nat} {xs : Nat → Int32} (hX : xSc U G n xs) (hi : i + 5 ≤ n) (hn : n ≤ 2560) {s : aO} {M : xM} (hC : RC M s) (hM : RM M s) (hW : WfO s i) (next : ∀ M1 s1, RC M1 s1 → RM M1 s1 → WfO s1 (i + 5) → XW U G 897 [some (.inr 64), some (.inr 0), some (.inr 9), some (.inl (nI i))] [] M1) : XW U G 301 [some (.inr 64), some (.inr 0), some (.inr 9), some (.inl (nI i))] [] M := by
  obtain ⟨⟨a, la, ea, -⟩, -⟩ := id hW
  have hr : s.1.2 1 ≠ -1 := by rw [ea]; exact nI_m1 (by omega)
  refine x_aload_n hO dL_law_301 rfl rfl ?_
  refine x_aload_n hO dL_law_302 rfl rfl ?_
  refine x_iload_n hO dL_law_303 rfl rfl ?_
  refine x_iconst (v := nI 1) hO dL_law_304 rfl ?_
  refine x_iadd hO dL_law_305 ?_
  refine x_sld hO hX (nI_add _ _) (by omega) (by omega) dL_law_306 ?_
  refine x_callV hO (kc_setPlacing U M hC (xs (i + 1))) dL_law_307 lkL_27 fX3_setPlacing vX3_setPlacing (by decide) rfl rfl rfl rfl rfl (by decide) (Nat.le_of_ble_eq_true rfl) (fun r1 M1 p1 => ?_)
  obtain ⟨rfl, hC1, f1⟩ := p1
  have hM1 := hM.fr f1
  refine x_aload_n hO dL_law_310 rfl rfl ?_
  refine x_aload_n hO dL_law_311 rfl rfl ?_
  refine x_iload_n hO dL_law_312 rfl rfl ?_
  refine x_iconst (v := nI 1) hO dL_law_313 rfl ?_
  refine x_iadd hO dL_law_314 ?_
  refine x_sld hO hX (nI_add _ _) (by omega) (by omega) dL_law_315 ?_
  refine x_callV hO (km_setPlacing U M1 hM1 (xs (i + 1))) dL_law_316 lkL_30 fX4_setPlacing vX4_setPlacing (by decide) rfl rfl rfl rfl rfl (by decide) (Nat.le_of_ble_eq_true rfl) (fun r2 M2 p2 => ?_)
  obtain ⟨rfl, hM2, f2⟩ := p2
  have hC2 := hC1.fr f2
  exact x_icmp_eq (tgt := 897) hO dL_law_319 (by decide) (fun _ => next _ _ hC2 hM2 (wf_setPlacing hW _)) (fun z => absurd rfl z)
theorem xL_compact {U : xP} {G : xG} (hO : xOK U G RL cL_law 9) {n i : Nat} {xs : Nat → Int32} (hX : xSc U G n xs) (hi : i + 5 ≤ n) (hn : n ≤ 2560) {s : aO} {M : xM} (hC : RC M s) (hM : RM M s) (hW : WfO s i) (next : ∀ M1 s1, RC M1 s1 → RM M1 s1 → WfO s1 (i + 5) → XW U G 897 [some (.inr 64), some (.inr 0), some (.inr 9), some (.inl (nI i))] [] M1) : XW U G 324 [some (.inr 64), some (.inr 0), some (.inr 9), some (.inl (nI i))] [] M := by
  obtain ⟨⟨a, la, ea, -⟩, -⟩ := id hW
  have hr : s.1.2 1 ≠ -1 := by rw [ea]; exact nI_m1 (by omega)
  refine x_aload_n hO dL_law_324 rfl rfl ?_
  refine x_callV hO (kc_compact U M hC ) dL_law_325 lkL_31 fX3_compact vX3_compact (by decide) rfl rfl rfl rfl rfl (by decide) (Nat.le_of_ble_eq_true rfl) (fun r1 M1 p1 => ?_)
  obtain ⟨rfl, hC1, f1⟩ := p1
  have hM1 := hM.fr f1
  refine x_aload_n hO dL_law_328 rfl rfl ?_
  refine x_callV hO (km_compact U M1 hM1 ) dL_law_329 lkL_35 fX4_compact vX4_compact (by decide) rfl rfl rfl rfl rfl (by decide) (Nat.le_of_ble_eq_true rfl) (fun r2 M2 p2 => ?_)
  obtain ⟨rfl, hM2, f2⟩ := p2
  have hC2 := hC1.fr f2
  exact x_icmp_eq (tgt := 897) hO dL_law_332 (by decide) (fun _ => next _ _ hC2 hM2 (wf_re hW (by decide) (aCnt_le _))) (fun z => absurd rfl z)
theorem xL_spread {U : xP} {G : xG} (hO : xOK U G RL cL_law 9) {n i : Nat} {xs : Nat → Int32} (hX : xSc U G n xs) (hi : i + 5 ≤ n) (hn : n ≤ 2560) {s : aO} {M : xM} (hC : RC M s) (hM : RM M s) (hW : WfO s i) (next : ∀ M1 s1, RC M1 s1 → RM M1 s1 → WfO s1 (i + 5) → XW U G 897 [some (.inr 64), some (.inr 0), some (.inr 9), some (.inl (nI i))] [] M1) : XW U G 337 [some (.inr 64), some (.inr 0), some (.inr 9), some (.inl (nI i))] [] M := by
  obtain ⟨⟨a, la, ea, -⟩, -⟩ := id hW
  have hr : s.1.2 1 ≠ -1 := by rw [ea]; exact nI_m1 (by omega)
  refine x_aload_n hO dL_law_337 rfl rfl ?_
  refine x_callV hO (kc_spread U M hC ) dL_law_338 lkL_36 fX3_spread vX3_spread (by decide) rfl rfl rfl rfl rfl (by decide) (Nat.le_of_ble_eq_true rfl) (fun r1 M1 p1 => ?_)
  obtain ⟨rfl, hC1, f1⟩ := p1
  have hM1 := hM.fr f1
  refine x_aload_n hO dL_law_341 rfl rfl ?_
  refine x_callV hO (km_spread U M1 hM1 ) dL_law_342 lkL_39 fX4_spread vX4_spread (by decide) rfl rfl rfl rfl rfl (by decide) (Nat.le_of_ble_eq_true rfl) (fun r2 M2 p2 => ?_)
  obtain ⟨rfl, hM2, f2⟩ := p2
  have hC2 := hC1.fr f2
  exact x_icmp_eq (tgt := 897) hO dL_law_345 (by decide) (fun _ => next _ _ hC2 hM2 (wf_re hW (aCnt_le _) (Nat.le_refl _))) (fun z => absurd rfl z)
theorem xL_search {U : xP} {G : xG} (hO : xOK U G RL cL_law 9) {n i : Nat} {xs : Nat → Int32} (hX : xSc U G n xs) (hi : i + 5 ≤ n) (hn : n ≤ 2560) {s : aO} {M : xM} (hC : RC M s) (hM : RM M s) (hW : WfO s i) (next : ∀ M1 s1, RC M1 s1 → RM M1 s1 → WfO s1 (i + 5) → XW U G 897 [some (.inr 64), some (.inr 0), some (.inr 9), some (.inl (nI i))] [] M1) : XW U G 350 [some (.inr 64), some (.inr 0), some (.inr 9), some (.inl (nI i))] [] M := by
  obtain ⟨⟨a, la, ea, -⟩, -⟩ := id hW
  have hr : s.1.2 1 ≠ -1 := by rw [ea]; exact nI_m1 (by omega)
  refine x_aload_n hO dL_law_350 rfl rfl ?_
  refine x_aload_n hO dL_law_351 rfl rfl ?_
  refine x_iload_n hO dL_law_352 rfl rfl ?_
  refine x_iconst (v := nI 1) hO dL_law_353 rfl ?_
  refine x_iadd hO dL_law_354 ?_
  refine x_sld hO hX (nI_add _ _) (by omega) (by omega) dL_law_355 ?_
  refine x_callV hO (kc_search U M hC (xs (i + 1))) dL_law_356 lkL_40 fX3_search vX3_search (by decide) rfl rfl rfl rfl rfl (by decide) (Nat.le_of_ble_eq_true rfl) (fun r1 M1 p1 => ?_)
  obtain ⟨rfl, hC1, f1⟩ := p1
  have hM1 := hM.fr f1
  refine x_aload_n hO dL_law_359 rfl rfl ?_
  refine x_aload_n hO dL_law_360 rfl rfl ?_
  refine x_iload_n hO dL_law_361 rfl rfl ?_
  refine x_iconst (v := nI 1) hO dL_law_362 rfl ?_
  refine x_iadd hO dL_law_363 ?_
  refine x_sld hO hX (nI_add _ _) (by omega) (by omega) dL_law_364 ?_
  refine x_callV hO (km_search U M1 hM1 hW (by omega) (xs (i + 1))) dL_law_365 lkL_43 fX4_search vX4_search (by decide) rfl rfl rfl rfl rfl (by decide) (Nat.le_of_ble_eq_true rfl) (fun r2 M2 p2 => ?_)
  obtain ⟨rfl, hM2, f2⟩ := p2
  have hC2 := hC1.fr f2
  exact x_icmp_eq (tgt := 897) hO dL_law_368 (by decide) (fun _ => next _ _ hC2 hM2 (wf_search hW (by omega) _)) (fun z => absurd rfl z)
theorem xL_type {U : xP} {G : xG} (hO : xOK U G RL cL_law 9) {n i : Nat} {xs : Nat → Int32} (hX : xSc U G n xs) (hi : i + 5 ≤ n) (hn : n ≤ 2560) {s : aO} {M : xM} (hC : RC M s) (hM : RM M s) (hW : WfO s i) (next : ∀ M1 s1, RC M1 s1 → RM M1 s1 → WfO s1 (i + 5) → XW U G 897 [some (.inr 64), some (.inr 0), some (.inr 9), some (.inl (nI i))] [] M1) : XW U G 373 [some (.inr 64), some (.inr 0), some (.inr 9), some (.inl (nI i))] [] M := by
  obtain ⟨⟨a, la, ea, -⟩, -⟩ := id hW
  have hr : s.1.2 1 ≠ -1 := by rw [ea]; exact nI_m1 (by omega)
  refine x_aload_n hO dL_law_373 rfl rfl ?_
  refine x_aload_n hO dL_law_374 rfl rfl ?_
  refine x_iload_n hO dL_law_375 rfl rfl ?_
  refine x_iconst (v := nI 1) hO dL_law_376 rfl ?_
  refine x_iadd hO dL_law_377 ?_
  refine x_sld hO hX (nI_add _ _) (by omega) (by omega) dL_law_378 ?_
  refine x_i2c hO dL_law_379 rfl ?_
  refine x_callV hO (kc_type U M hC _) dL_law_380 lkL_44 fX3_type vX3_type (by decide) rfl rfl rfl rfl rfl (by decide) (Nat.le_of_ble_eq_true rfl) (fun r1 M1 p1 => ?_)
  obtain ⟨rfl, hC1, f1⟩ := p1
  have hM1 := hM.fr f1
  refine x_aload_n hO dL_law_383 rfl rfl ?_
  refine x_aload_n hO dL_law_384 rfl rfl ?_
  refine x_iload_n hO dL_law_385 rfl rfl ?_
  refine x_iconst (v := nI 1) hO dL_law_386 rfl ?_
  refine x_iadd hO dL_law_387 ?_
  refine x_sld hO hX (nI_add _ _) (by omega) (by omega) dL_law_388 ?_
  refine x_i2c hO dL_law_389 rfl ?_
  refine x_callV hO (km_type U M1 hM1 _) dL_law_390 lkL_48 fX4_type vX4_type (by decide) rfl rfl rfl rfl rfl (by decide) (Nat.le_of_ble_eq_true rfl) (fun r2 M2 p2 => ?_)
  obtain ⟨rfl, hM2, f2⟩ := p2
  have hC2 := hC1.fr f2
  exact x_icmp_eq (tgt := 897) hO dL_law_393 (by decide) (fun _ => next _ _ hC2 hM2 (wf_type hW _)) (fun z => absurd rfl z)
theorem xL_clearText {U : xP} {G : xG} (hO : xOK U G RL cL_law 9) {n i : Nat} {xs : Nat → Int32} (hX : xSc U G n xs) (hi : i + 5 ≤ n) (hn : n ≤ 2560) {s : aO} {M : xM} (hC : RC M s) (hM : RM M s) (hW : WfO s i) (next : ∀ M1 s1, RC M1 s1 → RM M1 s1 → WfO s1 (i + 5) → XW U G 897 [some (.inr 64), some (.inr 0), some (.inr 9), some (.inl (nI i))] [] M1) : XW U G 398 [some (.inr 64), some (.inr 0), some (.inr 9), some (.inl (nI i))] [] M := by
  obtain ⟨⟨a, la, ea, -⟩, -⟩ := id hW
  have hr : s.1.2 1 ≠ -1 := by rw [ea]; exact nI_m1 (by omega)
  refine x_aload_n hO dL_law_398 rfl rfl ?_
  refine x_callV hO (kc_clearText U M hC ) dL_law_399 lkL_49 fX3_clearText vX3_clearText (by decide) rfl rfl rfl rfl rfl (by decide) (Nat.le_of_ble_eq_true rfl) (fun r1 M1 p1 => ?_)
  obtain ⟨rfl, hC1, f1⟩ := p1
  have hM1 := hM.fr f1
  refine x_aload_n hO dL_law_402 rfl rfl ?_
  refine x_callV hO (km_clearText U M1 hM1 ) dL_law_403 lkL_52 fX4_clearText vX4_clearText (by decide) rfl rfl rfl rfl rfl (by decide) (Nat.le_of_ble_eq_true rfl) (fun r2 M2 p2 => ?_)
  obtain ⟨rfl, hM2, f2⟩ := p2
  have hC2 := hC1.fr f2
  exact x_icmp_eq (tgt := 897) hO dL_law_406 (by decide) (fun _ => next _ _ hC2 hM2 (wf_clearText hW)) (fun z => absurd rfl z)
theorem xL_addText {U : xP} {G : xG} (hO : xOK U G RL cL_law 9) {n i : Nat} {xs : Nat → Int32} (hX : xSc U G n xs) (hi : i + 5 ≤ n) (hn : n ≤ 2560) {s : aO} {M : xM} (hC : RC M s) (hM : RM M s) (hW : WfO s i) (next : ∀ M1 s1, RC M1 s1 → RM M1 s1 → WfO s1 (i + 5) → XW U G 897 [some (.inr 64), some (.inr 0), some (.inr 9), some (.inl (nI i))] [] M1) : XW U G 411 [some (.inr 64), some (.inr 0), some (.inr 9), some (.inl (nI i))] [] M := by
  obtain ⟨⟨a, la, ea, -⟩, -⟩ := id hW
  have hr : s.1.2 1 ≠ -1 := by rw [ea]; exact nI_m1 (by omega)
  refine x_aload_n hO dL_law_411 rfl rfl ?_
  refine x_callV hO (kc_addText U M hC ea (by omega) ) dL_law_412 lkL_53 fX3_addText vX3_addText (by decide) rfl rfl rfl rfl rfl (by decide) (Nat.le_of_ble_eq_true rfl) (fun r1 M1 p1 => ?_)
  obtain ⟨rfl, hC1, f1⟩ := p1
  have hM1 := hM.fr f1
  refine x_aload_n hO dL_law_415 rfl rfl ?_
  refine x_callV hO (km_addText U M1 hM1 hW (by omega) ) dL_law_416 lkL_56 fX4_addText vX4_addText (by decide) rfl rfl rfl rfl rfl (by decide) (Nat.le_of_ble_eq_true rfl) (fun r2 M2 p2 => ?_)
  obtain ⟨rfl, hM2, f2⟩ := p2
  have hC2 := hC1.fr f2
  exact x_icmp_eq (tgt := 897) hO dL_law_419 (by decide) (fun _ => next _ _ hC2 hM2 (wf_addText hW (by omega))) (fun z => absurd rfl z)
theorem xL_undo {U : xP} {G : xG} (hO : xOK U G RL cL_law 9) {n i : Nat} {xs : Nat → Int32} (hX : xSc U G n xs) (hi : i + 5 ≤ n) (hn : n ≤ 2560) {s : aO} {M : xM} (hC : RC M s) (hM : RM M s) (hW : WfO s i) (next : ∀ M1 s1, RC M1 s1 → RM M1 s1 → WfO s1 (i + 5) → XW U G 897 [some (.inr 64), some (.inr 0), some (.inr 9), some (.inl (nI i))] [] M1) : XW U G 424 [some (.inr 64), some (.inr 0), some (.inr 9), some (.inl (nI i))] [] M := by
  obtain ⟨⟨a, la, ea, -⟩, -⟩ := id hW
  have hr : s.1.2 1 ≠ -1 := by rw [ea]; exact nI_m1 (by omega)
  refine x_aload_n hO dL_law_424 rfl rfl ?_
  refine x_callV hO (kc_undo U M hC ) dL_law_425 lkL_57 fX3_undo vX3_undo (by decide) rfl rfl rfl rfl rfl (by decide) (Nat.le_of_ble_eq_true rfl) (fun r1 M1 p1 => ?_)
  obtain ⟨rfl, hC1, f1⟩ := p1
  have hM1 := hM.fr f1
  refine x_aload_n hO dL_law_428 rfl rfl ?_
  refine x_callV hO (km_undo U M1 hM1 ) dL_law_429 lkL_60 fX4_undo vX4_undo (by decide) rfl rfl rfl rfl rfl (by decide) (Nat.le_of_ble_eq_true rfl) (fun r2 M2 p2 => ?_)
  obtain ⟨rfl, hM2, f2⟩ := p2
  have hC2 := hC1.fr f2
  exact x_icmp_eq (tgt := 897) hO dL_law_432 (by decide) (fun _ => next _ _ hC2 hM2 (wf_undo hW)) (fun z => absurd rfl z)
theorem xL_keep {U : xP} {G : xG} (hO : xOK U G RL cL_law 9) {n i : Nat} {xs : Nat → Int32} (hX : xSc U G n xs) (hi : i + 5 ≤ n) (hn : n ≤ 2560) {s : aO} {M : xM} (hC : RC M s) (hM : RM M s) (hW : WfO s i) (next : ∀ M1 s1, RC M1 s1 → RM M1 s1 → WfO s1 (i + 5) → XW U G 897 [some (.inr 64), some (.inr 0), some (.inr 9), some (.inl (nI i))] [] M1) : XW U G 437 [some (.inr 64), some (.inr 0), some (.inr 9), some (.inl (nI i))] [] M := by
  obtain ⟨⟨a, la, ea, -⟩, -⟩ := id hW
  have hr : s.1.2 1 ≠ -1 := by rw [ea]; exact nI_m1 (by omega)
  refine x_aload_n hO dL_law_437 rfl rfl ?_
  refine x_callV hO (kc_keep U M hC ) dL_law_438 lkL_61 fX3_keep vX3_keep (by decide) rfl rfl rfl rfl rfl (by decide) (Nat.le_of_ble_eq_true rfl) (fun r1 M1 p1 => ?_)
  obtain ⟨rfl, hC1, f1⟩ := p1
  have hM1 := hM.fr f1
  refine x_aload_n hO dL_law_441 rfl rfl ?_
  refine x_callV hO (km_keep U M1 hM1 ) dL_law_442 lkL_64 fX4_keep vX4_keep (by decide) rfl rfl rfl rfl rfl (by decide) (Nat.le_of_ble_eq_true rfl) (fun r2 M2 p2 => ?_)
  obtain ⟨rfl, hM2, f2⟩ := p2
  have hC2 := hC1.fr f2
  exact x_icmp_eq (tgt := 897) hO dL_law_445 (by decide) (fun _ => next _ _ hC2 hM2 (wf_keep hW)) (fun z => absurd rfl z)
theorem xL_restore {U : xP} {G : xG} (hO : xOK U G RL cL_law 9) {n i : Nat} {xs : Nat → Int32} (hX : xSc U G n xs) (hi : i + 5 ≤ n) (hn : n ≤ 2560) {s : aO} {M : xM} (hC : RC M s) (hM : RM M s) (hW : WfO s i) (next : ∀ M1 s1, RC M1 s1 → RM M1 s1 → WfO s1 (i + 5) → XW U G 897 [some (.inr 64), some (.inr 0), some (.inr 9), some (.inl (nI i))] [] M1) : XW U G 450 [some (.inr 64), some (.inr 0), some (.inr 9), some (.inl (nI i))] [] M := by
  obtain ⟨⟨a, la, ea, -⟩, -⟩ := id hW
  have hr : s.1.2 1 ≠ -1 := by rw [ea]; exact nI_m1 (by omega)
  refine x_aload_n hO dL_law_450 rfl rfl ?_
  refine x_callV hO (kc_restore U M hC ) dL_law_451 lkL_65 fX3_restore vX3_restore (by decide) rfl rfl rfl rfl rfl (by decide) (Nat.le_of_ble_eq_true rfl) (fun r1 M1 p1 => ?_)
  obtain ⟨rfl, hC1, f1⟩ := p1
  have hM1 := hM.fr f1
  refine x_aload_n hO dL_law_454 rfl rfl ?_
  refine x_callV hO (km_restore U M1 hM1 ) dL_law_455 lkL_68 fX4_restore vX4_restore (by decide) rfl rfl rfl rfl rfl (by decide) (Nat.le_of_ble_eq_true rfl) (fun r2 M2 p2 => ?_)
  obtain ⟨rfl, hM2, f2⟩ := p2
  have hC2 := hC1.fr f2
  exact x_icmp_eq (tgt := 897) hO dL_law_458 (by decide) (fun _ => next _ _ hC2 hM2 (wf_restore hW)) (fun z => absurd rfl z)
theorem xL_ruleIn {U : xP} {G : xG} (hO : xOK U G RL cL_law 9) {n i : Nat} {xs : Nat → Int32} (hX : xSc U G n xs) (hi : i + 5 ≤ n) (hn : n ≤ 2560) {s : aO} {M : xM} (hC : RC M s) (hM : RM M s) (hW : WfO s i) (next : ∀ M1 s1, RC M1 s1 → RM M1 s1 → WfO s1 (i + 5) → XW U G 897 [some (.inr 64), some (.inr 0), some (.inr 9), some (.inl (nI i))] [] M1) : XW U G 463 [some (.inr 64), some (.inr 0), some (.inr 9), some (.inl (nI i))] [] M := by
  obtain ⟨⟨a, la, ea, -⟩, -⟩ := id hW
  have hr : s.1.2 1 ≠ -1 := by rw [ea]; exact nI_m1 (by omega)
  refine x_aload_n hO dL_law_463 rfl rfl ?_
  refine x_aload_n hO dL_law_464 rfl rfl ?_
  refine x_iload_n hO dL_law_465 rfl rfl ?_
  refine x_iconst (v := nI 1) hO dL_law_466 rfl ?_
  refine x_iadd hO dL_law_467 ?_
  refine x_sld hO hX (nI_add _ _) (by omega) (by omega) dL_law_468 ?_
  refine x_callV hO (kc_ruleIn U M hC (xs (i + 1))) dL_law_469 lkL_69 fX3_ruleIn vX3_ruleIn (by decide) rfl rfl rfl rfl rfl (by decide) (Nat.le_of_ble_eq_true rfl) (fun r1 M1 p1 => ?_)
  obtain ⟨rfl, rfl⟩ := p1
  have hM1 := hM
  refine x_aload_n hO dL_law_472 rfl rfl ?_
  refine x_aload_n hO dL_law_473 rfl rfl ?_
  refine x_iload_n hO dL_law_474 rfl rfl ?_
  refine x_iconst (v := nI 1) hO dL_law_475 rfl ?_
  refine x_iadd hO dL_law_476 ?_
  refine x_sld hO hX (nI_add _ _) (by omega) (by omega) dL_law_477 ?_
  refine x_callV hO (km_ruleIn U M1 hM1 hW (by omega) (xs (i + 1))) dL_law_478 lkL_72 fX4_ruleIn vX4_ruleIn (by decide) rfl rfl rfl rfl rfl (by decide) (Nat.le_of_ble_eq_true rfl) (fun r2 M2 p2 => ?_)
  obtain ⟨rfl, rfl⟩ := p2
  exact x_icmp_eq (tgt := 897) hO dL_law_481 (by decide) (fun _ => next _ _ hC hM (hW.up (by omega))) (fun z => absurd rfl z)
theorem xL_maskIn {U : xP} {G : xG} (hO : xOK U G RL cL_law 9) {n i : Nat} {xs : Nat → Int32} (hX : xSc U G n xs) (hi : i + 5 ≤ n) (hn : n ≤ 2560) {s : aO} {M : xM} (hC : RC M s) (hM : RM M s) (hW : WfO s i) (next : ∀ M1 s1, RC M1 s1 → RM M1 s1 → WfO s1 (i + 5) → XW U G 897 [some (.inr 64), some (.inr 0), some (.inr 9), some (.inl (nI i))] [] M1) : XW U G 486 [some (.inr 64), some (.inr 0), some (.inr 9), some (.inl (nI i))] [] M := by
  obtain ⟨⟨a, la, ea, -⟩, -⟩ := id hW
  have hr : s.1.2 1 ≠ -1 := by rw [ea]; exact nI_m1 (by omega)
  refine x_aload_n hO dL_law_486 rfl rfl ?_
  refine x_aload_n hO dL_law_487 rfl rfl ?_
  refine x_iload_n hO dL_law_488 rfl rfl ?_
  refine x_iconst (v := nI 1) hO dL_law_489 rfl ?_
  refine x_iadd hO dL_law_490 ?_
  refine x_sld hO hX (nI_add _ _) (by omega) (by omega) dL_law_491 ?_
  refine x_callV hO (kc_maskIn U M hC (xs (i + 1))) dL_law_492 lkL_73 fX3_maskIn vX3_maskIn (by decide) rfl rfl rfl rfl rfl (by decide) (Nat.le_of_ble_eq_true rfl) (fun r1 M1 p1 => ?_)
  obtain ⟨rfl, rfl⟩ := p1
  have hM1 := hM
  refine x_aload_n hO dL_law_495 rfl rfl ?_
  refine x_aload_n hO dL_law_496 rfl rfl ?_
  refine x_iload_n hO dL_law_497 rfl rfl ?_
  refine x_iconst (v := nI 1) hO dL_law_498 rfl ?_
  refine x_iadd hO dL_law_499 ?_
  refine x_sld hO hX (nI_add _ _) (by omega) (by omega) dL_law_500 ?_
  refine x_callV hO (km_maskIn U M1 hM1 (xs (i + 1))) dL_law_501 lkL_76 fX4_maskIn vX4_maskIn (by decide) rfl rfl rfl rfl rfl (by decide) (Nat.le_of_ble_eq_true rfl) (fun r2 M2 p2 => ?_)
  obtain ⟨rfl, rfl⟩ := p2
  exact x_icmp_eq (tgt := 897) hO dL_law_504 (by decide) (fun _ => next _ _ hC hM (hW.up (by omega))) (fun z => absurd rfl z)
theorem xL_valueIn {U : xP} {G : xG} (hO : xOK U G RL cL_law 9) {n i : Nat} {xs : Nat → Int32} (hX : xSc U G n xs) (hi : i + 5 ≤ n) (hn : n ≤ 2560) {s : aO} {M : xM} (hC : RC M s) (hM : RM M s) (hW : WfO s i) (next : ∀ M1 s1, RC M1 s1 → RM M1 s1 → WfO s1 (i + 5) → XW U G 897 [some (.inr 64), some (.inr 0), some (.inr 9), some (.inl (nI i))] [] M1) : XW U G 509 [some (.inr 64), some (.inr 0), some (.inr 9), some (.inl (nI i))] [] M := by
  obtain ⟨⟨a, la, ea, -⟩, -⟩ := id hW
  have hr : s.1.2 1 ≠ -1 := by rw [ea]; exact nI_m1 (by omega)
  refine x_aload_n hO dL_law_509 rfl rfl ?_
  refine x_aload_n hO dL_law_510 rfl rfl ?_
  refine x_iload_n hO dL_law_511 rfl rfl ?_
  refine x_iconst (v := nI 1) hO dL_law_512 rfl ?_
  refine x_iadd hO dL_law_513 ?_
  refine x_sld hO hX (nI_add _ _) (by omega) (by omega) dL_law_514 ?_
  refine x_callV hO (kc_valueIn U M hC (xs (i + 1))) dL_law_515 lkL_77 fX3_valueIn vX3_valueIn (by decide) rfl rfl rfl rfl rfl (by decide) (Nat.le_of_ble_eq_true rfl) (fun r1 M1 p1 => ?_)
  obtain ⟨rfl, rfl⟩ := p1
  have hM1 := hM
  refine x_aload_n hO dL_law_518 rfl rfl ?_
  refine x_aload_n hO dL_law_519 rfl rfl ?_
  refine x_iload_n hO dL_law_520 rfl rfl ?_
  refine x_iconst (v := nI 1) hO dL_law_521 rfl ?_
  refine x_iadd hO dL_law_522 ?_
  refine x_sld hO hX (nI_add _ _) (by omega) (by omega) dL_law_523 ?_
  refine x_callV hO (km_valueIn U M1 hM1 (xs (i + 1))) dL_law_524 lkL_80 fX4_valueIn vX4_valueIn (by decide) rfl rfl rfl rfl rfl (by decide) (Nat.le_of_ble_eq_true rfl) (fun r2 M2 p2 => ?_)
  obtain ⟨rfl, rfl⟩ := p2
  exact x_icmp_eq (tgt := 897) hO dL_law_527 (by decide) (fun _ => next _ _ hC hM (hW.up (by omega))) (fun z => absurd rfl z)
theorem xL_sortIn {U : xP} {G : xG} (hO : xOK U G RL cL_law 9) {n i : Nat} {xs : Nat → Int32} (hX : xSc U G n xs) (hi : i + 5 ≤ n) (hn : n ≤ 2560) {s : aO} {M : xM} (hC : RC M s) (hM : RM M s) (hW : WfO s i) (next : ∀ M1 s1, RC M1 s1 → RM M1 s1 → WfO s1 (i + 5) → XW U G 897 [some (.inr 64), some (.inr 0), some (.inr 9), some (.inl (nI i))] [] M1) : XW U G 532 [some (.inr 64), some (.inr 0), some (.inr 9), some (.inl (nI i))] [] M := by
  obtain ⟨⟨a, la, ea, -⟩, -⟩ := id hW
  have hr : s.1.2 1 ≠ -1 := by rw [ea]; exact nI_m1 (by omega)
  refine x_aload_n hO dL_law_532 rfl rfl ?_
  refine x_aload_n hO dL_law_533 rfl rfl ?_
  refine x_iload_n hO dL_law_534 rfl rfl ?_
  refine x_iconst (v := nI 1) hO dL_law_535 rfl ?_
  refine x_iadd hO dL_law_536 ?_
  refine x_sld hO hX (nI_add _ _) (by omega) (by omega) dL_law_537 ?_
  refine x_callV hO (kc_sortIn U M hC (xs (i + 1))) dL_law_538 lkL_81 fX3_sortIn vX3_sortIn (by decide) rfl rfl rfl rfl rfl (by decide) (Nat.le_of_ble_eq_true rfl) (fun r1 M1 p1 => ?_)
  obtain ⟨rfl, rfl⟩ := p1
  have hM1 := hM
  refine x_aload_n hO dL_law_541 rfl rfl ?_
  refine x_aload_n hO dL_law_542 rfl rfl ?_
  refine x_iload_n hO dL_law_543 rfl rfl ?_
  refine x_iconst (v := nI 1) hO dL_law_544 rfl ?_
  refine x_iadd hO dL_law_545 ?_
  refine x_sld hO hX (nI_add _ _) (by omega) (by omega) dL_law_546 ?_
  refine x_callV hO (km_sortIn U M1 hM1 (xs (i + 1))) dL_law_547 lkL_84 fX4_sortIn vX4_sortIn (by decide) rfl rfl rfl rfl rfl (by decide) (Nat.le_of_ble_eq_true rfl) (fun r2 M2 p2 => ?_)
  obtain ⟨rfl, rfl⟩ := p2
  exact x_icmp_eq (tgt := 897) hO dL_law_550 (by decide) (fun _ => next _ _ hC hM (hW.up (by omega))) (fun z => absurd rfl z)
theorem xL_slotOf {U : xP} {G : xG} (hO : xOK U G RL cL_law 9) {n i : Nat} {xs : Nat → Int32} (hX : xSc U G n xs) (hi : i + 5 ≤ n) (hn : n ≤ 2560) {s : aO} {M : xM} (hC : RC M s) (hM : RM M s) (hW : WfO s i) (next : ∀ M1 s1, RC M1 s1 → RM M1 s1 → WfO s1 (i + 5) → XW U G 897 [some (.inr 64), some (.inr 0), some (.inr 9), some (.inl (nI i))] [] M1) : XW U G 555 [some (.inr 64), some (.inr 0), some (.inr 9), some (.inl (nI i))] [] M := by
  obtain ⟨⟨a, la, ea, -⟩, -⟩ := id hW
  have hr : s.1.2 1 ≠ -1 := by rw [ea]; exact nI_m1 (by omega)
  refine x_aload_n hO dL_law_555 rfl rfl ?_
  refine x_aload_n hO dL_law_556 rfl rfl ?_
  refine x_iload_n hO dL_law_557 rfl rfl ?_
  refine x_iconst (v := nI 1) hO dL_law_558 rfl ?_
  refine x_iadd hO dL_law_559 ?_
  refine x_sld hO hX (nI_add _ _) (by omega) (by omega) dL_law_560 ?_
  refine x_aload_n hO dL_law_561 rfl rfl ?_
  refine x_iload_n hO dL_law_562 rfl rfl ?_
  refine x_iconst (v := nI 2) hO dL_law_563 rfl ?_
  refine x_iadd hO dL_law_564 ?_
  refine x_sld hO hX (nI_add _ _) (by omega) (by omega) dL_law_565 ?_
  refine x_callV hO (kc_slotOf U M hC (xs (i + 1)) (xs (i + 2))) dL_law_566 lkL_85 fX3_slotOf vX3_slotOf (by decide) rfl rfl rfl rfl rfl (by decide) (Nat.le_of_ble_eq_true rfl) (fun r1 M1 p1 => ?_)
  obtain ⟨rfl, rfl⟩ := p1
  have hM1 := hM
  refine x_aload_n hO dL_law_569 rfl rfl ?_
  refine x_aload_n hO dL_law_570 rfl rfl ?_
  refine x_iload_n hO dL_law_571 rfl rfl ?_
  refine x_iconst (v := nI 1) hO dL_law_572 rfl ?_
  refine x_iadd hO dL_law_573 ?_
  refine x_sld hO hX (nI_add _ _) (by omega) (by omega) dL_law_574 ?_
  refine x_aload_n hO dL_law_575 rfl rfl ?_
  refine x_iload_n hO dL_law_576 rfl rfl ?_
  refine x_iconst (v := nI 2) hO dL_law_577 rfl ?_
  refine x_iadd hO dL_law_578 ?_
  refine x_sld hO hX (nI_add _ _) (by omega) (by omega) dL_law_579 ?_
  refine x_callV hO (km_slotOf U M1 hM1 hW (xs (i + 1)) (xs (i + 2))) dL_law_580 lkL_89 fX4_slotOf vX4_slotOf (by decide) rfl rfl rfl rfl rfl (by decide) (Nat.le_of_ble_eq_true rfl) (fun r2 M2 p2 => ?_)
  obtain ⟨rfl, rfl⟩ := p2
  exact x_icmp_eq (tgt := 897) hO dL_law_583 (by decide) (fun _ => next _ _ hC hM (hW.up (by omega))) (fun z => absurd rfl z)
theorem xL_parts {U : xP} {G : xG} (hO : xOK U G RL cL_law 9) {n i : Nat} {xs : Nat → Int32} (hX : xSc U G n xs) (hi : i + 5 ≤ n) (hn : n ≤ 2560) {s : aO} {M : xM} (hC : RC M s) (hM : RM M s) (hW : WfO s i) (next : ∀ M1 s1, RC M1 s1 → RM M1 s1 → WfO s1 (i + 5) → XW U G 897 [some (.inr 64), some (.inr 0), some (.inr 9), some (.inl (nI i))] [] M1) : XW U G 588 [some (.inr 64), some (.inr 0), some (.inr 9), some (.inl (nI i))] [] M := by
  obtain ⟨⟨a, la, ea, -⟩, -⟩ := id hW
  have hr : s.1.2 1 ≠ -1 := by rw [ea]; exact nI_m1 (by omega)
  refine x_aload_n hO dL_law_588 rfl rfl ?_
  refine x_aload_n hO dL_law_589 rfl rfl ?_
  refine x_iload_n hO dL_law_590 rfl rfl ?_
  refine x_iconst (v := nI 1) hO dL_law_591 rfl ?_
  refine x_iadd hO dL_law_592 ?_
  refine x_sld hO hX (nI_add _ _) (by omega) (by omega) dL_law_593 ?_
  refine x_callV hO (kc_parts U M hC (xs (i + 1))) dL_law_594 lkL_90 fX3_parts vX3_parts (by decide) rfl rfl rfl rfl rfl (by decide) (Nat.le_of_ble_eq_true rfl) (fun r1 M1 p1 => ?_)
  obtain ⟨rfl, rfl⟩ := p1
  have hM1 := hM
  refine x_aload_n hO dL_law_597 rfl rfl ?_
  refine x_aload_n hO dL_law_598 rfl rfl ?_
  refine x_iload_n hO dL_law_599 rfl rfl ?_
  refine x_iconst (v := nI 1) hO dL_law_600 rfl ?_
  refine x_iadd hO dL_law_601 ?_
  refine x_sld hO hX (nI_add _ _) (by omega) (by omega) dL_law_602 ?_
  refine x_callV hO (km_parts U M1 hM1 hW (xs (i + 1))) dL_law_603 lkL_93 fX4_parts vX4_parts (by decide) rfl rfl rfl rfl rfl (by decide) (Nat.le_of_ble_eq_true rfl) (fun r2 M2 p2 => ?_)
  obtain ⟨rfl, rfl⟩ := p2
  exact x_icmp_eq (tgt := 897) hO dL_law_606 (by decide) (fun _ => next _ _ hC hM (hW.up (by omega))) (fun z => absurd rfl z)
theorem xL_rank {U : xP} {G : xG} (hO : xOK U G RL cL_law 9) {n i : Nat} {xs : Nat → Int32} (hX : xSc U G n xs) (hi : i + 5 ≤ n) (hn : n ≤ 2560) {s : aO} {M : xM} (hC : RC M s) (hM : RM M s) (hW : WfO s i) (next : ∀ M1 s1, RC M1 s1 → RM M1 s1 → WfO s1 (i + 5) → XW U G 897 [some (.inr 64), some (.inr 0), some (.inr 9), some (.inl (nI i))] [] M1) : XW U G 611 [some (.inr 64), some (.inr 0), some (.inr 9), some (.inl (nI i))] [] M := by
  obtain ⟨⟨a, la, ea, -⟩, -⟩ := id hW
  have hr : s.1.2 1 ≠ -1 := by rw [ea]; exact nI_m1 (by omega)
  refine x_aload_n hO dL_law_611 rfl rfl ?_
  refine x_aload_n hO dL_law_612 rfl rfl ?_
  refine x_iload_n hO dL_law_613 rfl rfl ?_
  refine x_iconst (v := nI 1) hO dL_law_614 rfl ?_
  refine x_iadd hO dL_law_615 ?_
  refine x_sld hO hX (nI_add _ _) (by omega) (by omega) dL_law_616 ?_
  refine x_callV hO (kc_rank U M hC (xs (i + 1))) dL_law_617 lkL_94 fX3_rank vX3_rank (by decide) rfl rfl rfl rfl rfl (by decide) (Nat.le_of_ble_eq_true rfl) (fun r1 M1 p1 => ?_)
  obtain ⟨rfl, rfl⟩ := p1
  have hM1 := hM
  refine x_aload_n hO dL_law_620 rfl rfl ?_
  refine x_aload_n hO dL_law_621 rfl rfl ?_
  refine x_iload_n hO dL_law_622 rfl rfl ?_
  refine x_iconst (v := nI 1) hO dL_law_623 rfl ?_
  refine x_iadd hO dL_law_624 ?_
  refine x_sld hO hX (nI_add _ _) (by omega) (by omega) dL_law_625 ?_
  refine x_callV hO (km_rank U M1 hM1 hW (xs (i + 1))) dL_law_626 lkL_97 fX4_rank vX4_rank (by decide) rfl rfl rfl rfl rfl (by decide) (Nat.le_of_ble_eq_true rfl) (fun r2 M2 p2 => ?_)
  obtain ⟨rfl, rfl⟩ := p2
  exact x_icmp_eq (tgt := 897) hO dL_law_629 (by decide) (fun _ => next _ _ hC hM (hW.up (by omega))) (fun z => absurd rfl z)
theorem xL_action {U : xP} {G : xG} (hO : xOK U G RL cL_law 9) {n i : Nat} {xs : Nat → Int32} (hX : xSc U G n xs) (hi : i + 5 ≤ n) (hn : n ≤ 2560) {s : aO} {M : xM} (hC : RC M s) (hM : RM M s) (hW : WfO s i) (next : ∀ M1 s1, RC M1 s1 → RM M1 s1 → WfO s1 (i + 5) → XW U G 897 [some (.inr 64), some (.inr 0), some (.inr 9), some (.inl (nI i))] [] M1) : XW U G 634 [some (.inr 64), some (.inr 0), some (.inr 9), some (.inl (nI i))] [] M := by
  obtain ⟨⟨a, la, ea, -⟩, -⟩ := id hW
  have hr : s.1.2 1 ≠ -1 := by rw [ea]; exact nI_m1 (by omega)
  refine x_aload_n hO dL_law_634 rfl rfl ?_
  refine x_aload_n hO dL_law_635 rfl rfl ?_
  refine x_iload_n hO dL_law_636 rfl rfl ?_
  refine x_iconst (v := nI 1) hO dL_law_637 rfl ?_
  refine x_iadd hO dL_law_638 ?_
  refine x_sld hO hX (nI_add _ _) (by omega) (by omega) dL_law_639 ?_
  refine x_callV hO (kc_action U M hC (xs (i + 1))) dL_law_640 lkL_98 fX3_action vX3_action (by decide) rfl rfl rfl rfl rfl (by decide) (Nat.le_of_ble_eq_true rfl) (fun r1 M1 p1 => ?_)
  obtain ⟨rfl, rfl⟩ := p1
  have hM1 := hM
  refine x_aload_n hO dL_law_643 rfl rfl ?_
  refine x_aload_n hO dL_law_644 rfl rfl ?_
  refine x_iload_n hO dL_law_645 rfl rfl ?_
  refine x_iconst (v := nI 1) hO dL_law_646 rfl ?_
  refine x_iadd hO dL_law_647 ?_
  refine x_sld hO hX (nI_add _ _) (by omega) (by omega) dL_law_648 ?_
  refine x_callV hO (km_action U M1 hM1 hW (xs (i + 1))) dL_law_649 lkL_101 fX4_action vX4_action (by decide) rfl rfl rfl rfl rfl (by decide) (Nat.le_of_ble_eq_true rfl) (fun r2 M2 p2 => ?_)
  obtain ⟨rfl, rfl⟩ := p2
  exact x_icmp_eq (tgt := 897) hO dL_law_652 (by decide) (fun _ => next _ _ hC hM (hW.up (by omega))) (fun z => absurd rfl z)
theorem xL_hits {U : xP} {G : xG} (hO : xOK U G RL cL_law 9) {n i : Nat} {xs : Nat → Int32} (hX : xSc U G n xs) (hi : i + 5 ≤ n) (hn : n ≤ 2560) {s : aO} {M : xM} (hC : RC M s) (hM : RM M s) (hW : WfO s i) (next : ∀ M1 s1, RC M1 s1 → RM M1 s1 → WfO s1 (i + 5) → XW U G 897 [some (.inr 64), some (.inr 0), some (.inr 9), some (.inl (nI i))] [] M1) : XW U G 657 [some (.inr 64), some (.inr 0), some (.inr 9), some (.inl (nI i))] [] M := by
  obtain ⟨⟨a, la, ea, -⟩, -⟩ := id hW
  have hr : s.1.2 1 ≠ -1 := by rw [ea]; exact nI_m1 (by omega)
  refine x_aload_n hO dL_law_657 rfl rfl ?_
  refine x_aload_n hO dL_law_658 rfl rfl ?_
  refine x_iload_n hO dL_law_659 rfl rfl ?_
  refine x_iconst (v := nI 1) hO dL_law_660 rfl ?_
  refine x_iadd hO dL_law_661 ?_
  refine x_sld hO hX (nI_add _ _) (by omega) (by omega) dL_law_662 ?_
  refine x_callV hO (kc_hits U M hC (xs (i + 1))) dL_law_663 lkL_102 fX3_hits vX3_hits (by decide) rfl rfl rfl rfl rfl (by decide) (Nat.le_of_ble_eq_true rfl) (fun r1 M1 p1 => ?_)
  obtain ⟨rfl, rfl⟩ := p1
  have hM1 := hM
  refine x_aload_n hO dL_law_666 rfl rfl ?_
  refine x_aload_n hO dL_law_667 rfl rfl ?_
  refine x_iload_n hO dL_law_668 rfl rfl ?_
  refine x_iconst (v := nI 1) hO dL_law_669 rfl ?_
  refine x_iadd hO dL_law_670 ?_
  refine x_sld hO hX (nI_add _ _) (by omega) (by omega) dL_law_671 ?_
  refine x_callV hO (km_hits U M1 hM1 hW (xs (i + 1))) dL_law_672 lkL_105 fX4_hits vX4_hits (by decide) rfl rfl rfl rfl rfl (by decide) (Nat.le_of_ble_eq_true rfl) (fun r2 M2 p2 => ?_)
  obtain ⟨rfl, rfl⟩ := p2
  exact x_icmp_eq (tgt := 897) hO dL_law_675 (by decide) (fun _ => next _ _ hC hM (hW.up (by omega))) (fun z => absurd rfl z)
theorem xL_find {U : xP} {G : xG} (hO : xOK U G RL cL_law 9) {n i : Nat} {xs : Nat → Int32} (hX : xSc U G n xs) (hi : i + 5 ≤ n) (hn : n ≤ 2560) {s : aO} {M : xM} (hC : RC M s) (hM : RM M s) (hW : WfO s i) (next : ∀ M1 s1, RC M1 s1 → RM M1 s1 → WfO s1 (i + 5) → XW U G 897 [some (.inr 64), some (.inr 0), some (.inr 9), some (.inl (nI i))] [] M1) : XW U G 680 [some (.inr 64), some (.inr 0), some (.inr 9), some (.inl (nI i))] [] M := by
  obtain ⟨⟨a, la, ea, -⟩, -⟩ := id hW
  have hr : s.1.2 1 ≠ -1 := by rw [ea]; exact nI_m1 (by omega)
  refine x_aload_n hO dL_law_680 rfl rfl ?_
  refine x_aload_n hO dL_law_681 rfl rfl ?_
  refine x_iload_n hO dL_law_682 rfl rfl ?_
  refine x_iconst (v := nI 1) hO dL_law_683 rfl ?_
  refine x_iadd hO dL_law_684 ?_
  refine x_sld hO hX (nI_add _ _) (by omega) (by omega) dL_law_685 ?_
  refine x_callV hO (kc_find U M hC (xs (i + 1))) dL_law_686 lkL_106 fX3_find vX3_find (by decide) rfl rfl rfl rfl rfl (by decide) (Nat.le_of_ble_eq_true rfl) (fun r1 M1 p1 => ?_)
  obtain ⟨rfl, rfl⟩ := p1
  have hM1 := hM
  refine x_aload_n hO dL_law_689 rfl rfl ?_
  refine x_aload_n hO dL_law_690 rfl rfl ?_
  refine x_iload_n hO dL_law_691 rfl rfl ?_
  refine x_iconst (v := nI 1) hO dL_law_692 rfl ?_
  refine x_iadd hO dL_law_693 ?_
  refine x_sld hO hX (nI_add _ _) (by omega) (by omega) dL_law_694 ?_
  refine x_callV hO (km_find U M1 hM1.rows (xs (i + 1))) dL_law_695 lkL_109 fX4_find vX4_find (by decide) rfl rfl rfl rfl rfl (by decide) (Nat.le_of_ble_eq_true rfl) (fun r2 M2 p2 => ?_)
  obtain ⟨rfl, rfl⟩ := p2
  exact x_icmp_eq (tgt := 897) hO dL_law_698 (by decide) (fun _ => next _ _ hC hM (hW.up (by omega))) (fun z => absurd rfl z)
theorem xL_power {U : xP} {G : xG} (hO : xOK U G RL cL_law 9) {n i : Nat} {xs : Nat → Int32} (hX : xSc U G n xs) (hi : i + 5 ≤ n) (hn : n ≤ 2560) {s : aO} {M : xM} (hC : RC M s) (hM : RM M s) (hW : WfO s i) (next : ∀ M1 s1, RC M1 s1 → RM M1 s1 → WfO s1 (i + 5) → XW U G 897 [some (.inr 64), some (.inr 0), some (.inr 9), some (.inl (nI i))] [] M1) : XW U G 703 [some (.inr 64), some (.inr 0), some (.inr 9), some (.inl (nI i))] [] M := by
  obtain ⟨⟨a, la, ea, -⟩, -⟩ := id hW
  have hr : s.1.2 1 ≠ -1 := by rw [ea]; exact nI_m1 (by omega)
  refine x_aload_n hO dL_law_703 rfl rfl ?_
  refine x_aload_n hO dL_law_704 rfl rfl ?_
  refine x_iload_n hO dL_law_705 rfl rfl ?_
  refine x_iconst (v := nI 1) hO dL_law_706 rfl ?_
  refine x_iadd hO dL_law_707 ?_
  refine x_sld hO hX (nI_add _ _) (by omega) (by omega) dL_law_708 ?_
  refine x_callV hO (kc_power U M hC (xs (i + 1))) dL_law_709 lkL_110 fX3_power vX3_power (by decide) rfl rfl rfl rfl rfl (by decide) (Nat.le_of_ble_eq_true rfl) (fun r1 M1 p1 => ?_)
  obtain ⟨rfl, rfl⟩ := p1
  have hM1 := hM
  refine x_aload_n hO dL_law_712 rfl rfl ?_
  refine x_aload_n hO dL_law_713 rfl rfl ?_
  refine x_iload_n hO dL_law_714 rfl rfl ?_
  refine x_iconst (v := nI 1) hO dL_law_715 rfl ?_
  refine x_iadd hO dL_law_716 ?_
  refine x_sld hO hX (nI_add _ _) (by omega) (by omega) dL_law_717 ?_
  refine x_callV hO (km_power U M1 hM1 hW (xs (i + 1))) dL_law_718 lkL_113 fX4_power vX4_power (by decide) rfl rfl rfl rfl rfl (by decide) (Nat.le_of_ble_eq_true rfl) (fun r2 M2 p2 => ?_)
  obtain ⟨rfl, rfl⟩ := p2
  exact x_icmp_eq (tgt := 897) hO dL_law_721 (by decide) (fun _ => next _ _ hC hM (hW.up (by omega))) (fun z => absurd rfl z)
theorem xL_filterMask {U : xP} {G : xG} (hO : xOK U G RL cL_law 9) {n i : Nat} {xs : Nat → Int32} (hX : xSc U G n xs) (hi : i + 5 ≤ n) (hn : n ≤ 2560) {s : aO} {M : xM} (hC : RC M s) (hM : RM M s) (hW : WfO s i) (next : ∀ M1 s1, RC M1 s1 → RM M1 s1 → WfO s1 (i + 5) → XW U G 897 [some (.inr 64), some (.inr 0), some (.inr 9), some (.inl (nI i))] [] M1) : XW U G 726 [some (.inr 64), some (.inr 0), some (.inr 9), some (.inl (nI i))] [] M := by
  obtain ⟨⟨a, la, ea, -⟩, -⟩ := id hW
  have hr : s.1.2 1 ≠ -1 := by rw [ea]; exact nI_m1 (by omega)
  refine x_aload_n hO dL_law_726 rfl rfl ?_
  refine x_aload_n hO dL_law_727 rfl rfl ?_
  refine x_iload_n hO dL_law_728 rfl rfl ?_
  refine x_iconst (v := nI 1) hO dL_law_729 rfl ?_
  refine x_iadd hO dL_law_730 ?_
  refine x_sld hO hX (nI_add _ _) (by omega) (by omega) dL_law_731 ?_
  refine x_callV hO (kc_filterMask U M hC (xs (i + 1))) dL_law_732 lkL_114 fX3_filterMask vX3_filterMask (by decide) rfl rfl rfl rfl rfl (by decide) (Nat.le_of_ble_eq_true rfl) (fun r1 M1 p1 => ?_)
  obtain ⟨rfl, rfl⟩ := p1
  have hM1 := hM
  refine x_aload_n hO dL_law_735 rfl rfl ?_
  refine x_aload_n hO dL_law_736 rfl rfl ?_
  refine x_iload_n hO dL_law_737 rfl rfl ?_
  refine x_iconst (v := nI 1) hO dL_law_738 rfl ?_
  refine x_iadd hO dL_law_739 ?_
  refine x_sld hO hX (nI_add _ _) (by omega) (by omega) dL_law_740 ?_
  refine x_callV hO (km_filterMask U M1 hM1 hW (xs (i + 1))) dL_law_741 lkL_117 fX4_filterMask vX4_filterMask (by decide) rfl rfl rfl rfl rfl (by decide) (Nat.le_of_ble_eq_true rfl) (fun r2 M2 p2 => ?_)
  obtain ⟨rfl, rfl⟩ := p2
  exact x_icmp_eq (tgt := 897) hO dL_law_744 (by decide) (fun _ => next _ _ hC hM (hW.up (by omega))) (fun z => absurd rfl z)
theorem xL_filterValue {U : xP} {G : xG} (hO : xOK U G RL cL_law 9) {n i : Nat} {xs : Nat → Int32} (hX : xSc U G n xs) (hi : i + 5 ≤ n) (hn : n ≤ 2560) {s : aO} {M : xM} (hC : RC M s) (hM : RM M s) (hW : WfO s i) (next : ∀ M1 s1, RC M1 s1 → RM M1 s1 → WfO s1 (i + 5) → XW U G 897 [some (.inr 64), some (.inr 0), some (.inr 9), some (.inl (nI i))] [] M1) : XW U G 749 [some (.inr 64), some (.inr 0), some (.inr 9), some (.inl (nI i))] [] M := by
  obtain ⟨⟨a, la, ea, -⟩, -⟩ := id hW
  have hr : s.1.2 1 ≠ -1 := by rw [ea]; exact nI_m1 (by omega)
  refine x_aload_n hO dL_law_749 rfl rfl ?_
  refine x_aload_n hO dL_law_750 rfl rfl ?_
  refine x_iload_n hO dL_law_751 rfl rfl ?_
  refine x_iconst (v := nI 1) hO dL_law_752 rfl ?_
  refine x_iadd hO dL_law_753 ?_
  refine x_sld hO hX (nI_add _ _) (by omega) (by omega) dL_law_754 ?_
  refine x_callV hO (kc_filterValue U M hC (xs (i + 1))) dL_law_755 lkL_118 fX3_filterValue vX3_filterValue (by decide) rfl rfl rfl rfl rfl (by decide) (Nat.le_of_ble_eq_true rfl) (fun r1 M1 p1 => ?_)
  obtain ⟨rfl, rfl⟩ := p1
  have hM1 := hM
  refine x_aload_n hO dL_law_758 rfl rfl ?_
  refine x_aload_n hO dL_law_759 rfl rfl ?_
  refine x_iload_n hO dL_law_760 rfl rfl ?_
  refine x_iconst (v := nI 1) hO dL_law_761 rfl ?_
  refine x_iadd hO dL_law_762 ?_
  refine x_sld hO hX (nI_add _ _) (by omega) (by omega) dL_law_763 ?_
  refine x_callV hO (km_filterValue U M1 hM1 hW (xs (i + 1))) dL_law_764 lkL_121 fX4_filterValue vX4_filterValue (by decide) rfl rfl rfl rfl rfl (by decide) (Nat.le_of_ble_eq_true rfl) (fun r2 M2 p2 => ?_)
  obtain ⟨rfl, rfl⟩ := p2
  exact x_icmp_eq (tgt := 897) hO dL_law_767 (by decide) (fun _ => next _ _ hC hM (hW.up (by omega))) (fun z => absurd rfl z)
theorem xL_hiddenBy {U : xP} {G : xG} (hO : xOK U G RL cL_law 9) {n i : Nat} {xs : Nat → Int32} (hX : xSc U G n xs) (hi : i + 5 ≤ n) (hn : n ≤ 2560) {s : aO} {M : xM} (hC : RC M s) (hM : RM M s) (hW : WfO s i) (next : ∀ M1 s1, RC M1 s1 → RM M1 s1 → WfO s1 (i + 5) → XW U G 897 [some (.inr 64), some (.inr 0), some (.inr 9), some (.inl (nI i))] [] M1) : XW U G 772 [some (.inr 64), some (.inr 0), some (.inr 9), some (.inl (nI i))] [] M := by
  obtain ⟨⟨a, la, ea, -⟩, -⟩ := id hW
  have hr : s.1.2 1 ≠ -1 := by rw [ea]; exact nI_m1 (by omega)
  refine x_aload_n hO dL_law_772 rfl rfl ?_
  refine x_aload_n hO dL_law_773 rfl rfl ?_
  refine x_iload_n hO dL_law_774 rfl rfl ?_
  refine x_iconst (v := nI 1) hO dL_law_775 rfl ?_
  refine x_iadd hO dL_law_776 ?_
  refine x_sld hO hX (nI_add _ _) (by omega) (by omega) dL_law_777 ?_
  refine x_callV hO (kc_hiddenBy U M hC (xs (i + 1))) dL_law_778 lkL_122 fX3_hiddenBy vX3_hiddenBy (by decide) rfl rfl rfl rfl rfl (by decide) (Nat.le_of_ble_eq_true rfl) (fun r1 M1 p1 => ?_)
  obtain ⟨rfl, rfl⟩ := p1
  have hM1 := hM
  refine x_aload_n hO dL_law_781 rfl rfl ?_
  refine x_aload_n hO dL_law_782 rfl rfl ?_
  refine x_iload_n hO dL_law_783 rfl rfl ?_
  refine x_iconst (v := nI 1) hO dL_law_784 rfl ?_
  refine x_iadd hO dL_law_785 ?_
  refine x_sld hO hX (nI_add _ _) (by omega) (by omega) dL_law_786 ?_
  refine x_callV hO (km_hiddenBy U M1 hM1 hW (xs (i + 1))) dL_law_787 lkL_125 fX4_hiddenBy vX4_hiddenBy (by decide) rfl rfl rfl rfl rfl (by decide) (Nat.le_of_ble_eq_true rfl) (fun r2 M2 p2 => ?_)
  obtain ⟨rfl, rfl⟩ := p2
  exact x_icmp_eq (tgt := 897) hO dL_law_790 (by decide) (fun _ => next _ _ hC hM (hW.up (by omega))) (fun z => absurd rfl z)
theorem xL_keysFor {U : xP} {G : xG} (hO : xOK U G RL cL_law 9) {n i : Nat} {xs : Nat → Int32} (hX : xSc U G n xs) (hi : i + 5 ≤ n) (hn : n ≤ 2560) {s : aO} {M : xM} (hC : RC M s) (hM : RM M s) (hW : WfO s i) (next : ∀ M1 s1, RC M1 s1 → RM M1 s1 → WfO s1 (i + 5) → XW U G 897 [some (.inr 64), some (.inr 0), some (.inr 9), some (.inl (nI i))] [] M1) : XW U G 795 [some (.inr 64), some (.inr 0), some (.inr 9), some (.inl (nI i))] [] M := by
  obtain ⟨⟨a, la, ea, -⟩, -⟩ := id hW
  have hr : s.1.2 1 ≠ -1 := by rw [ea]; exact nI_m1 (by omega)
  refine x_aload_n hO dL_law_795 rfl rfl ?_
  refine x_aload_n hO dL_law_796 rfl rfl ?_
  refine x_iload_n hO dL_law_797 rfl rfl ?_
  refine x_iconst (v := nI 1) hO dL_law_798 rfl ?_
  refine x_iadd hO dL_law_799 ?_
  refine x_sld hO hX (nI_add _ _) (by omega) (by omega) dL_law_800 ?_
  refine x_callV hO (kc_keysFor U M hC (xs (i + 1))) dL_law_801 lkL_126 fX3_keysFor vX3_keysFor (by decide) rfl rfl rfl rfl rfl (by decide) (Nat.le_of_ble_eq_true rfl) (fun r1 M1 p1 => ?_)
  obtain ⟨rfl, rfl⟩ := p1
  have hM1 := hM
  refine x_aload_n hO dL_law_804 rfl rfl ?_
  refine x_aload_n hO dL_law_805 rfl rfl ?_
  refine x_iload_n hO dL_law_806 rfl rfl ?_
  refine x_iconst (v := nI 1) hO dL_law_807 rfl ?_
  refine x_iadd hO dL_law_808 ?_
  refine x_sld hO hX (nI_add _ _) (by omega) (by omega) dL_law_809 ?_
  refine x_callV hO (km_keysFor U M1 hM1.rows (xs (i + 1))) dL_law_810 lkL_129 fX4_keysFor vX4_keysFor (by decide) rfl rfl rfl rfl rfl (by decide) (Nat.le_of_ble_eq_true rfl) (fun r2 M2 p2 => ?_)
  obtain ⟨rfl, rfl⟩ := p2
  exact x_icmp_eq (tgt := 897) hO dL_law_813 (by decide) (fun _ => next _ _ hC hM (hW.up (by omega))) (fun z => absurd rfl z)
theorem xL_wouldMove {U : xP} {G : xG} (hO : xOK U G RL cL_law 9) {n i : Nat} {xs : Nat → Int32} (hX : xSc U G n xs) (hi : i + 5 ≤ n) (hn : n ≤ 2560) {s : aO} {M : xM} (hC : RC M s) (hM : RM M s) (hW : WfO s i) (next : ∀ M1 s1, RC M1 s1 → RM M1 s1 → WfO s1 (i + 5) → XW U G 897 [some (.inr 64), some (.inr 0), some (.inr 9), some (.inl (nI i))] [] M1) : XW U G 818 [some (.inr 64), some (.inr 0), some (.inr 9), some (.inl (nI i))] [] M := by
  obtain ⟨⟨a, la, ea, -⟩, -⟩ := id hW
  have hr : s.1.2 1 ≠ -1 := by rw [ea]; exact nI_m1 (by omega)
  refine x_aload_n hO dL_law_818 rfl rfl ?_
  refine x_aload_n hO dL_law_819 rfl rfl ?_
  refine x_iload_n hO dL_law_820 rfl rfl ?_
  refine x_iconst (v := nI 1) hO dL_law_821 rfl ?_
  refine x_iadd hO dL_law_822 ?_
  refine x_sld hO hX (nI_add _ _) (by omega) (by omega) dL_law_823 ?_
  refine x_callV hO (kc_wouldMove U M hC (xs (i + 1))) dL_law_824 lkL_130 fX3_wouldMove vX3_wouldMove (by decide) rfl rfl rfl rfl rfl (by decide) (Nat.le_of_ble_eq_true rfl) (fun r1 M1 p1 => ?_)
  obtain ⟨rfl, rfl⟩ := p1
  have hM1 := hM
  refine x_aload_n hO dL_law_827 rfl rfl ?_
  refine x_aload_n hO dL_law_828 rfl rfl ?_
  refine x_iload_n hO dL_law_829 rfl rfl ?_
  refine x_iconst (v := nI 1) hO dL_law_830 rfl ?_
  refine x_iadd hO dL_law_831 ?_
  refine x_sld hO hX (nI_add _ _) (by omega) (by omega) dL_law_832 ?_
  refine x_callV hO (km_wouldMove U M1 hM1 hW (xs (i + 1))) dL_law_833 lkL_133 fX4_wouldMove vX4_wouldMove (by decide) rfl rfl rfl rfl rfl (by decide) (Nat.le_of_ble_eq_true rfl) (fun r2 M2 p2 => ?_)
  obtain ⟨rfl, rfl⟩ := p2
  exact x_icmp_eq (tgt := 897) hO dL_law_836 (by decide) (fun _ => next _ _ hC hM (hW.up (by omega))) (fun z => absurd rfl z)
theorem xL_entriesFor {U : xP} {G : xG} (hO : xOK U G RL cL_law 9) {n i : Nat} {xs : Nat → Int32} (hX : xSc U G n xs) (hi : i + 5 ≤ n) (hn : n ≤ 2560) {s : aO} {M : xM} (hC : RC M s) (hM : RM M s) (hW : WfO s i) (next : ∀ M1 s1, RC M1 s1 → RM M1 s1 → WfO s1 (i + 5) → XW U G 897 [some (.inr 64), some (.inr 0), some (.inr 9), some (.inl (nI i))] [] M1) : XW U G 841 [some (.inr 64), some (.inr 0), some (.inr 9), some (.inl (nI i))] [] M := by
  obtain ⟨⟨a, la, ea, -⟩, -⟩ := id hW
  have hr : s.1.2 1 ≠ -1 := by rw [ea]; exact nI_m1 (by omega)
  refine x_aload_n hO dL_law_841 rfl rfl ?_
  refine x_aload_n hO dL_law_842 rfl rfl ?_
  refine x_iload_n hO dL_law_843 rfl rfl ?_
  refine x_iconst (v := nI 1) hO dL_law_844 rfl ?_
  refine x_iadd hO dL_law_845 ?_
  refine x_sld hO hX (nI_add _ _) (by omega) (by omega) dL_law_846 ?_
  refine x_aload_n hO dL_law_847 rfl rfl ?_
  refine x_iload_n hO dL_law_848 rfl rfl ?_
  refine x_iconst (v := nI 2) hO dL_law_849 rfl ?_
  refine x_iadd hO dL_law_850 ?_
  refine x_sld hO hX (nI_add _ _) (by omega) (by omega) dL_law_851 ?_
  refine x_callV hO (kc_entriesFor U M (xs (i + 1)) (xs (i + 2))) dL_law_852 lkL_134 fX3_entriesFor vX3_entriesFor (by decide) rfl rfl rfl rfl rfl (by decide) (Nat.le_of_ble_eq_true rfl) (fun r1 M1 p1 => ?_)
  obtain ⟨rfl, rfl⟩ := p1
  have hM1 := hM
  refine x_aload_n hO dL_law_855 rfl rfl ?_
  refine x_aload_n hO dL_law_856 rfl rfl ?_
  refine x_iload_n hO dL_law_857 rfl rfl ?_
  refine x_iconst (v := nI 1) hO dL_law_858 rfl ?_
  refine x_iadd hO dL_law_859 ?_
  refine x_sld hO hX (nI_add _ _) (by omega) (by omega) dL_law_860 ?_
  refine x_aload_n hO dL_law_861 rfl rfl ?_
  refine x_iload_n hO dL_law_862 rfl rfl ?_
  refine x_iconst (v := nI 2) hO dL_law_863 rfl ?_
  refine x_iadd hO dL_law_864 ?_
  refine x_sld hO hX (nI_add _ _) (by omega) (by omega) dL_law_865 ?_
  refine x_callV hO (km_entriesFor U M1 (xs (i + 1)) (xs (i + 2))) dL_law_866 lkL_137 fX4_entriesFor vX4_entriesFor (by decide) rfl rfl rfl rfl rfl (by decide) (Nat.le_of_ble_eq_true rfl) (fun r2 M2 p2 => ?_)
  obtain ⟨rfl, rfl⟩ := p2
  exact x_icmp_eq (tgt := 897) hO dL_law_869 (by decide) (fun _ => next _ _ hC hM (hW.up (by omega))) (fun z => absurd rfl z)
theorem xL_total {U : xP} {G : xG} (hO : xOK U G RL cL_law 9) {n i : Nat} {xs : Nat → Int32} (hX : xSc U G n xs) (hi : i + 5 ≤ n) (hn : n ≤ 2560) {s : aO} {M : xM} (hC : RC M s) (hM : RM M s) (hW : WfO s i) (next : ∀ M1 s1, RC M1 s1 → RM M1 s1 → WfO s1 (i + 5) → XW U G 897 [some (.inr 64), some (.inr 0), some (.inr 9), some (.inl (nI i))] [] M1) : XW U G 874 [some (.inr 64), some (.inr 0), some (.inr 9), some (.inl (nI i))] [] M := by
  obtain ⟨⟨a, la, ea, -⟩, -⟩ := id hW
  have hr : s.1.2 1 ≠ -1 := by rw [ea]; exact nI_m1 (by omega)
  refine x_aload_n hO dL_law_874 rfl rfl ?_
  refine x_aload_n hO dL_law_875 rfl rfl ?_
  refine x_iload_n hO dL_law_876 rfl rfl ?_
  refine x_iconst (v := nI 1) hO dL_law_877 rfl ?_
  refine x_iadd hO dL_law_878 ?_
  refine x_sld hO hX (nI_add _ _) (by omega) (by omega) dL_law_879 ?_
  refine x_callV hO (kc_total U M hC (xs (i + 1))) dL_law_880 lkL_138 fX3_total vX3_total (by decide) rfl rfl rfl rfl rfl (by decide) (Nat.le_of_ble_eq_true rfl) (fun r1 M1 p1 => ?_)
  obtain ⟨rfl, rfl⟩ := p1
  have hM1 := hM
  refine x_aload_n hO dL_law_883 rfl rfl ?_
  refine x_aload_n hO dL_law_884 rfl rfl ?_
  refine x_iload_n hO dL_law_885 rfl rfl ?_
  refine x_iconst (v := nI 1) hO dL_law_886 rfl ?_
  refine x_iadd hO dL_law_887 ?_
  refine x_sld hO hX (nI_add _ _) (by omega) (by omega) dL_law_888 ?_
  refine x_callV hO (km_total U M1 hM1 (xs (i + 1))) dL_law_889 lkL_141 fX4_total vX4_total (by decide) rfl rfl rfl rfl rfl (by decide) (Nat.le_of_ble_eq_true rfl) (fun r2 M2 p2 => ?_)
  obtain ⟨rfl, rfl⟩ := p2
  exact x_icmp_eq (tgt := 897) hO dL_law_892 (by decide) (fun _ => next _ _ hC hM (hW.up (by omega))) (fun z => absurd rfl z)
theorem xL_step {U : xP} {G : xG} (hO : xOK U G RL cL_law 9) {n i : Nat} {xs : Nat → Int32} (hX : xSc U G n xs) (hi : i + 5 ≤ n) (hn : n ≤ 2560) {s : aO} {M : xM} (hC : RC M s) (hM : RM M s) (hW : WfO s i) (next : ∀ M1 s1, RC M1 s1 → RM M1 s1 → WfO s1 (i + 5) → XW U G 897 [some (.inr 64), some (.inr 0), some (.inr 9), some (.inl (nI i))] [] M1) (x : Int32) : XW U G 32 [some (.inr 64), some (.inr 0), some (.inr 9), some (.inl (nI i))] [.inl (x &&& nI 31)] M := by
  obtain ⟨c, hc, e⟩ := and31 x
  rw [e]
  have ht : (nI c).toInt = c := nI_toInt (by omega)
  obtain rfl | rfl | rfl | rfl | rfl | rfl | rfl | rfl | rfl | rfl | rfl | rfl | rfl | rfl | rfl | rfl | rfl | rfl | rfl | rfl | rfl | rfl | rfl | rfl | rfl | rfl | rfl | rfl | rfl | rfl | rfl | rfl : c = 0 ∨ c = 1 ∨ c = 2 ∨ c = 3 ∨ c = 4 ∨ c = 5 ∨ c = 6 ∨ c = 7 ∨ c = 8 ∨ c = 9 ∨ c = 10 ∨ c = 11 ∨ c = 12 ∨ c = 13 ∨ c = 14 ∨ c = 15 ∨ c = 16 ∨ c = 17 ∨ c = 18 ∨ c = 19 ∨ c = 20 ∨ c = 21 ∨ c = 22 ∨ c = 23 ∨ c = 24 ∨ c = 25 ∨ c = 26 ∨ c = 27 ∨ c = 28 ∨ c = 29 ∨ c = 30 ∨ c = 31 := by omega
  · exact x_tableIn (tgt := 172) hO dL_law_32 (by decide) (by decide) (show _ = some 140 by decide) (by decide) (xL_addRule hO hX hi hn hC hM hW next)
  · exact x_tableIn (tgt := 225) hO dL_law_32 (by decide) (by decide) (show _ = some 193 by decide) (by decide) (xL_addRange hO hX hi hn hC hM hW next)
  · exact x_tableIn (tgt := 278) hO dL_law_32 (by decide) (by decide) (show _ = some 246 by decide) (by decide) (xL_remove hO hX hi hn hC hM hW next)
  · exact x_tableIn (tgt := 301) hO dL_law_32 (by decide) (by decide) (show _ = some 269 by decide) (by decide) (xL_setPlacing hO hX hi hn hC hM hW next)
  · exact x_tableIn (tgt := 324) hO dL_law_32 (by decide) (by decide) (show _ = some 292 by decide) (by decide) (xL_compact hO hX hi hn hC hM hW next)
  · exact x_tableIn (tgt := 337) hO dL_law_32 (by decide) (by decide) (show _ = some 305 by decide) (by decide) (xL_spread hO hX hi hn hC hM hW next)
  · exact x_tableIn (tgt := 350) hO dL_law_32 (by decide) (by decide) (show _ = some 318 by decide) (by decide) (xL_search hO hX hi hn hC hM hW next)
  · exact x_tableIn (tgt := 373) hO dL_law_32 (by decide) (by decide) (show _ = some 341 by decide) (by decide) (xL_type hO hX hi hn hC hM hW next)
  · exact x_tableIn (tgt := 398) hO dL_law_32 (by decide) (by decide) (show _ = some 366 by decide) (by decide) (xL_clearText hO hX hi hn hC hM hW next)
  · exact x_tableIn (tgt := 411) hO dL_law_32 (by decide) (by decide) (show _ = some 379 by decide) (by decide) (xL_addText hO hX hi hn hC hM hW next)
  · exact x_tableIn (tgt := 424) hO dL_law_32 (by decide) (by decide) (show _ = some 392 by decide) (by decide) (xL_undo hO hX hi hn hC hM hW next)
  · exact x_tableIn (tgt := 437) hO dL_law_32 (by decide) (by decide) (show _ = some 405 by decide) (by decide) (xL_keep hO hX hi hn hC hM hW next)
  · exact x_tableIn (tgt := 450) hO dL_law_32 (by decide) (by decide) (show _ = some 418 by decide) (by decide) (xL_restore hO hX hi hn hC hM hW next)
  · exact x_tableIn (tgt := 463) hO dL_law_32 (by decide) (by decide) (show _ = some 431 by decide) (by decide) (xL_ruleIn hO hX hi hn hC hM hW next)
  · exact x_tableIn (tgt := 486) hO dL_law_32 (by decide) (by decide) (show _ = some 454 by decide) (by decide) (xL_maskIn hO hX hi hn hC hM hW next)
  · exact x_tableIn (tgt := 509) hO dL_law_32 (by decide) (by decide) (show _ = some 477 by decide) (by decide) (xL_valueIn hO hX hi hn hC hM hW next)
  · exact x_tableIn (tgt := 532) hO dL_law_32 (by decide) (by decide) (show _ = some 500 by decide) (by decide) (xL_sortIn hO hX hi hn hC hM hW next)
  · exact x_tableIn (tgt := 555) hO dL_law_32 (by decide) (by decide) (show _ = some 523 by decide) (by decide) (xL_slotOf hO hX hi hn hC hM hW next)
  · exact x_tableIn (tgt := 588) hO dL_law_32 (by decide) (by decide) (show _ = some 556 by decide) (by decide) (xL_parts hO hX hi hn hC hM hW next)
  · exact x_tableIn (tgt := 611) hO dL_law_32 (by decide) (by decide) (show _ = some 579 by decide) (by decide) (xL_rank hO hX hi hn hC hM hW next)
  · exact x_tableIn (tgt := 634) hO dL_law_32 (by decide) (by decide) (show _ = some 602 by decide) (by decide) (xL_action hO hX hi hn hC hM hW next)
  · exact x_tableIn (tgt := 657) hO dL_law_32 (by decide) (by decide) (show _ = some 625 by decide) (by decide) (xL_hits hO hX hi hn hC hM hW next)
  · exact x_tableIn (tgt := 680) hO dL_law_32 (by decide) (by decide) (show _ = some 648 by decide) (by decide) (xL_find hO hX hi hn hC hM hW next)
  · exact x_tableIn (tgt := 703) hO dL_law_32 (by decide) (by decide) (show _ = some 671 by decide) (by decide) (xL_power hO hX hi hn hC hM hW next)
  · exact x_tableIn (tgt := 726) hO dL_law_32 (by decide) (by decide) (show _ = some 694 by decide) (by decide) (xL_filterMask hO hX hi hn hC hM hW next)
  · exact x_tableIn (tgt := 749) hO dL_law_32 (by decide) (by decide) (show _ = some 717 by decide) (by decide) (xL_filterValue hO hX hi hn hC hM hW next)
  · exact x_tableIn (tgt := 772) hO dL_law_32 (by decide) (by decide) (show _ = some 740 by decide) (by decide) (xL_hiddenBy hO hX hi hn hC hM hW next)
  · exact x_tableIn (tgt := 795) hO dL_law_32 (by decide) (by decide) (show _ = some 763 by decide) (by decide) (xL_keysFor hO hX hi hn hC hM hW next)
  · exact x_tableIn (tgt := 818) hO dL_law_32 (by decide) (by decide) (show _ = some 786 by decide) (by decide) (xL_wouldMove hO hX hi hn hC hM hW next)
  · exact x_tableIn (tgt := 841) hO dL_law_32 (by decide) (by decide) (show _ = some 809 by decide) (by decide) (xL_entriesFor hO hX hi hn hC hM hW next)
  · exact x_tableIn (tgt := 874) hO dL_law_32 (by decide) (by decide) (show _ = some 842 by decide) (by decide) (xL_total hO hX hi hn hC hM hW next)
  · exact x_tableOut (tgt := 897) hO dL_law_32 (by decide) (by decide) (next _ _ hC hM (hW.up (by omega)))
theorem gt5 {n i : Nat} (hn : n ≤ 5000) (hi : i ≤ 5000) : nI n - nI 5 < nI i ↔ n < i + 5 := by
  rcases Nat.lt_or_ge n 5 with q | q
  · have : ∀ n, n < 5 → (nI n - nI 5 < 0) := by decide
    have h0 : (0 : Int32) ≤ nI i := Int32.not_lt.mp (nI_pos (by omega))
    exact ⟨fun _ => by omega, fun _ => Int32.lt_of_lt_of_le (this n q) h0⟩
  · rw [pk_sub (by omega), nI_ltI (by omega) (by omega)]
    omega
/-- from the loop's head, with both objects alike -/
theorem xL_loop {U : xP} {G : xG} (hN : G.2.2.2.2.2.2.2.2.2.2.1 = 4) (hO : xOK U G RL cL_law 9) {n : Nat} {xs : Nat → Int32} (hX : xSc U G n xs) (hn : n ≤ 2560) (fin : ∀ L M, XW U G 904 L [.inl (nI 1)] M) : ∀ (d i : Nat) (s : aO) (M : xM), n + 5 ≤ i + 5 * d + 5 → i ≤ n + 5 → RC M s → RM M s → WfO s i → XW U G 18 [some (.inr 64), some (.inr 0), some (.inr 9), some (.inl (nI i))] [] M := by
  intro d
  induction d with
  | zero =>
    intro i s M h1 h2 hC hM hW
    refine x_iload_n hO dL_law_18 rfl rfl ?_
    refine x_aload_n hO dL_law_19 rfl rfl ?_
    refine x_slen hO hX dL_law_20 ?_
    refine x_iconst (v := nI 5) hO dL_law_21 rfl ?_
    refine x_isub hO dL_law_22 ?_
    refine x_icmp_gt (tgt := 903) hO dL_law_23 (by decide) (fun _ => ?_) (fun c => ?_)
    · refine x_iconst (v := nI 1) hO dL_law_903 rfl ?_
      exact fin _ _
    · exact absurd ((gt5 (by omega) (by omega)).mpr (by omega)) c
  | succ d ih =>
    intro i s M h1 h2 hC hM hW
    refine x_iload_n hO dL_law_18 rfl rfl ?_
    refine x_aload_n hO dL_law_19 rfl rfl ?_
    refine x_slen hO hX dL_law_20 ?_
    refine x_iconst (v := nI 5) hO dL_law_21 rfl ?_
    refine x_isub hO dL_law_22 ?_
    refine x_icmp_gt (tgt := 903) hO dL_law_23 (by decide) (fun _ => ?_) (fun c => ?_)
    · refine x_iconst (v := nI 1) hO dL_law_903 rfl ?_
      exact fin _ _
    · have hi : i + 5 ≤ n := Nat.not_lt.mp (fun z => c ((gt5 (by omega) (by omega)).mpr z))
      refine x_aload_n hO dL_law_26 rfl rfl ?_
      refine x_iload_n hO dL_law_27 rfl rfl ?_
      refine x_sld hO hX rfl (by omega) (by omega) dL_law_28 ?_
      refine x_bipush (v := nI 31) hO dL_law_29 rfl ?_
      refine x_iand hO dL_law_31 ?_
      refine xL_step hO hX hi hn hC hM hW (fun M1 s1 c1 c2 c3 => ?_) _
      refine x_iinc (v := nI (i + 5)) hO dL_law_897 rfl (nI_add i 5) rfl hN ?_
      refine x_goto (tgt := 18) hO dL_law_900 (by decide) ?_
      exact ih (i + 5) s1 M1 (by omega) (by omega) c1 c2 c3
