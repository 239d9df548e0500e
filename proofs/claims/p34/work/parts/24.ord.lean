/-! ===== counting, one to one ===== -/
theorem nC_rel {R : Nat → Nat → Prop} {P : Nat → Bool} (hR : ∀ i i' j, R i j → R i' j → i = i') : ∀ {m n : Nat} {Q : Nat → Bool}, (∀ i, i < m → P i = true → ∃ j, j < n ∧ Q j = true ∧ R i j) → nC P m ≤ nC Q n
  | 0, _, _, _ => Nat.zero_le _
  | m + 1, n, Q, h => by
    cases e : P m with
    | false =>
      rw [nC_f e]
      exact nC_rel hR (fun i hi hp => h i (by omega) hp)
    | true =>
      rw [nC_t e]
      obtain ⟨u, u1, u2, u3⟩ := h m (by omega) e
      have e2 := nC_ins (P := fun j => Q j && !(j == u)) (Q := Q) (t := u) (by simp) u1 (fun s _ => by
        by_cases z : s = u
        · subst z; simp [u2]
        · have z2 : (s == u) = false := by simpa using z
          show Q s = ((Q s && !(s == u)) || s == u)
          rw [z2]
          simp)
      rw [e2]
      have := nC_rel hR (m := m) (n := n) (P := P) (Q := fun j => Q j && !(j == u)) (fun i hi hp => by
        obtain ⟨j, j1, j2, j3⟩ := h i (by omega) hp
        refine ⟨j, j1, ?_, j3⟩
        have : j ≠ u := by
          rintro rfl
          have := hR _ _ _ j3 u3
          omega
        simp [j2, this])
      omega
theorem nC_bij {P Q : Nat → Bool} {m n : Nat} (f : Nat → Nat) (h1 : ∀ i, i < m → P i = true → f i < n ∧ Q (f i) = true) (h2 : ∀ i j, i < m → j < m → P i = true → P j = true → f i = f j → i = j) (h3 : ∀ u, u < n → Q u = true → ∃ i, i < m ∧ P i = true ∧ f i = u) : nC P m = nC Q n :=
  Nat.le_antisymm (nC_rel (R := fun i j => (i < m ∧ P i = true) ∧ f i = j) (fun i i' j a b => h2 i i' a.1.1 b.1.1 a.1.2 b.1.2 (a.2.trans b.2.symm)) (fun i hi hp => ⟨f i, (h1 i hi hp).1, (h1 i hi hp).2, ⟨hi, hp⟩, rfl⟩)) (nC_rel (R := fun u i => f i = u) (fun u u' i a b => a.symm.trans b) (fun u hu hq => h3 u hu hq))
/-! ===== the order of the entries: ranks, then rules, then parts ===== -/
def ordA (A : aR) : Prop := (∀ s t, s < t → aoc A s = true → aoc A t = true → A s 4 = A t 4 → A s 0 ≤ A t 0) ∧ (∀ s, aoc A s = true → A s 1 = nI (nC (pRule A (A s 0)) s)) ∧ (∀ s t, aoc A s = true → aoc A t = true → A s 0 = A t 0 → A s 4 = A t 4 ∧ A s 5 = A t 5) ∧ ∀ s, aoc A s = true → (∃ k, k < 100 ∧ A s 4 = nI k) ∧ ∃ k, k < 10 ∧ A s 5 = nI k
theorem pRule_iff {A : aR} {x : Int32} {s : Nat} : pRule A x s = true ↔ aoc A s = true ∧ A s 0 = x := by
  unfold pRule
  simp
/-- rows that come from other rows, in the same order -/
theorem pRule_src {A B : aR} {t : Nat} {f : Nat → Nat} (m1 : ∀ s, s ≠ t → B s = A (f s)) {x : Int32} {s : Nat} (h : s ≠ t) : pRule B x s = pRule A x (f s) := by
  unfold pRule aoc
  rw [m1 s h]
theorem nC_src {A B : aR} {t : Nat} {f : Nat → Nat} (m1 : ∀ s, s ≠ t → B s = A (f s)) (m2 : ∀ s s', s < s' → s ≠ t → s' ≠ t → f s < f s') (m3 : ∀ u, aoc A u = true → ∃ s, s ≠ t ∧ f s = u) (x : Int32) {s : Nat} (hs : s ≠ t) : nC (fun i => pRule B x i && !(i == t)) s = nC (pRule A x) (f s) := by
  refine nC_bij f (fun i hi hp => ?_) (fun i j hi hj hpi hpj e => ?_) (fun u hu hq => ?_)
  · simp only [Bool.and_eq_true, Bool.not_eq_true', beq_eq_false_iff_ne] at hp
    exact ⟨m2 i s hi hp.2 hs, by rw [← pRule_src m1 hp.2]; exact hp.1⟩
  · simp only [Bool.and_eq_true, Bool.not_eq_true', beq_eq_false_iff_ne] at hpi hpj
    rcases Nat.lt_trichotomy i j with z | z | z
    · have := m2 i j z hpi.2 hpj.2; omega
    · exact z
    · have := m2 j i z hpj.2 hpi.2; omega
  · obtain ⟨i, i1, i2⟩ := m3 u (pRule_iff.mp hq).1
    refine ⟨i, ?_, ?_, i2⟩
    · rcases Nat.lt_trichotomy i s with z | z | z
      · exact z
      · subst z; omega
      · have := m2 s i z hs i1; omega
    · simp only [Bool.and_eq_true, Bool.not_eq_true', beq_eq_false_iff_ne]
      exact ⟨by rw [pRule_src m1 i1, i2]; exact hq, i1⟩
theorem ordA.ins {A : aR} {a : Nat} (w : wfA A a) (o : ordA A) (P k : Int32) {row : Nat → Int32} (h : aCnt A < 32) (hr : row 0 ≠ -1) (h4 : row 4 = k) (hle : ∀ s, aoc A s = true → A s 0 ≤ row 0) (hsame : ∀ s, aoc A s = true → A s 0 = row 0 → A s 4 = k ∧ A s 5 = row 5) (hp : row 1 = nI (nC (pRule A (row 0)) 32)) (hb4 : ∃ n, n < 100 ∧ row 4 = nI n) (hb5 : ∃ n, n < 10 ∧ row 5 = nI n) : ordA (aAdd A P k row) ∧ nC (pRule (aAdd A P k row) (row 0)) 32 = nC (pRule A (row 0)) 32 + 1 ∧ aAdd A P k row (oS A P k) = row ∧ aoc (aAdd A P k row) (oS A P k) = true ∧ ∀ s, aoc (aAdd A P k row) s = true → s = oS A P k ∨ ∃ u, aoc A u = true ∧ aAdd A P k row s = A u := by
  obtain ⟨f, c1, c2, c3, c4, c5, c6⟩ := aAdd_src P k row h (srt_pb w.1 w.ge k)
  have hlt := oS_lt P k h
  have hrow : aAdd A P k row (oS A P k) = row := by unfold aAdd; rw [if_pos rfl]
  have orow : aoc (aAdd A P k row) (oS A P k) = true := by
    unfold aoc
    rw [hrow]
    simpa using hr
  generalize hB : aAdd A P k row = B at *
  generalize oS A P k = t at *
  have osrc : ∀ s, s ≠ t → aoc B s = aoc A (f s) := fun s z => by unfold aoc; rw [c1 s z]
  have m3 : ∀ u, aoc A u = true → ∃ s, s ≠ t ∧ f s = u := fun u hu => by
    obtain ⟨s, -, n, e⟩ := c6 u hu (w.lt hu)
    exact ⟨s, n, e⟩
  have cnt : ∀ (x : Int32) (s : Nat), s ≠ t → nC (fun i => pRule B x i && !(i == t)) s = nC (pRule A x) (f s) := fun x s z => nC_src c1 c2 m3 x z
  have f32 : f 32 = 32 := c5 32 (Nat.le_refl _)
  have hsplit : ∀ s, t < s → nC (pRule B (row 0)) s = nC (fun i => pRule B (row 0) i && !(i == t)) s + 1 := fun s z => nC_ins (P := fun i => pRule B (row 0) i && !(i == t)) (by simp) z (fun i _ => by
    by_cases y : i = t
    · subst y
      simp [pRule_iff, orow, hrow]
    · have z2 : (i == t) = false := by simpa using y
      show pRule B (row 0) i = ((pRule B (row 0) i && !(i == t)) || i == t)
      rw [z2]
      simp)
  have c32 : nC (pRule B (row 0)) 32 = nC (pRule A (row 0)) 32 + 1 := by
    rw [hsplit 32 hlt, cnt (row 0) 32 (by omega), f32]
  -- behind the new row none has its rule
  have hno : ∀ s, t < s → pRule B (row 0) s = false := fun s z => by
    cases e : pRule B (row 0) s with
    | false => rfl
    | true =>
      exfalso
      obtain ⟨e1, e2⟩ := pRule_iff.mp e
      have y : s ≠ t := by omega
      rw [osrc s y] at e1
      rw [c1 s y] at e2
      have h1 := c4 s z e1 (w.lt e1)
      rw [(hsame _ e1 e2).1] at h1
      exact Int32.lt_irrefl h1
  refine ⟨⟨fun s s' z o1 o2 e => ?_, fun s os => ?_, fun s s' o1 o2 e => ?_, fun s os => ?_⟩, c32, hrow, orow, fun s os => ?_⟩
  · by_cases y1 : s = t
    · subst y1
      have y2 : s' ≠ s := by omega
      rw [osrc s' y2] at o2
      have h1 := c4 s' z o2 (w.lt o2)
      rw [hrow, c1 s' y2, h4] at e
      rw [← e] at h1
      exact absurd h1 Int32.lt_irrefl
    · rw [osrc s y1] at o1
      by_cases y2 : s' = t
      · subst y2
        rw [hrow, c1 s y1]
        exact hle _ o1
      · rw [osrc s' y2] at o2
        rw [c1 s y1, c1 s' y2] at e ⊢
        exact o.1 _ _ (c2 s s' z y1 y2) o1 o2 e
  · by_cases y : s = t
    · subst y
      rw [hrow, hp]
      congr 1
      have h1 := hsplit (s + 1) (by omega)
      rw [nC_t (by rw [pRule_iff]; exact ⟨orow, by rw [hrow]⟩)] at h1
      have h2 : nC (fun i => pRule B (row 0) i && !(i == s)) (s + 1) = nC (fun i => pRule B (row 0) i && !(i == s)) 32 := by
        have hz : ∀ d, nC (fun i => pRule B (row 0) i && !(i == s)) (s + 1 + d) = nC (fun i => pRule B (row 0) i && !(i == s)) (s + 1) := by
          intro d
          induction d with
          | zero => rfl
          | succ d ih =>
            rw [show s + 1 + (d + 1) = (s + 1 + d) + 1 from rfl, nC_f (by rw [hno (s + 1 + d) (by omega)]; rfl), ih]
        rw [← hz (32 - (s + 1)), show s + 1 + (32 - (s + 1)) = 32 by omega]
      rw [h2, cnt (row 0) 32 (by omega), f32] at h1
      omega
    · rw [osrc s y] at os
      have e := o.2.1 _ os
      rw [c1 s y, e]
      congr 1
      rw [← cnt _ s y]
      refine nC_congr (fun i hi => ?_)
      by_cases z : i = t
      · subst z
        have : pRule B (A (f s) 0) i = false := by
          cases q : pRule B (A (f s) 0) i with
          | false => rfl
          | true =>
            exfalso
            have q2 := (pRule_iff.mp q).2
            rw [hrow] at q2
            have h1 := c4 s hi os (w.lt os)
            rw [(hsame _ os q2.symm).1] at h1
            exact Int32.lt_irrefl h1
        rw [this]
        rfl
      · simp [z]
  · by_cases y1 : s = t
    · by_cases y2 : s' = t
      · rw [y1, y2]
        exact ⟨rfl, rfl⟩
      · rw [y1] at e ⊢
        rw [osrc s' y2] at o2
        rw [hrow, c1 s' y2] at e ⊢
        obtain ⟨h1, h2⟩ := hsame _ o2 e.symm
        exact ⟨by rw [h4, h1], h2.symm⟩
    · rw [osrc s y1] at o1
      by_cases y2 : s' = t
      · rw [y2] at e ⊢
        rw [hrow, c1 s y1] at e ⊢
        obtain ⟨h1, h2⟩ := hsame _ o1 e
        exact ⟨by rw [h4, h1], h2⟩
      · rw [osrc s' y2] at o2
        rw [c1 s y1, c1 s' y2] at e ⊢
        exact o.2.2.1 _ _ o1 o2 e
  · by_cases y : s = t
    · rw [y, hrow]
      exact ⟨hb4, hb5⟩
    · rw [osrc s y] at os
      rw [c1 s y]
      exact o.2.2.2 _ os
  · by_cases y : s = t
    · exact Or.inl y
    · rw [osrc s y] at os
      exact Or.inr ⟨f s, os, c1 s y⟩
theorem ordA.drop {A : aR} (o : ordA A) (x : Int32) : ordA (aDrop A x) := by
  have ho : ∀ s, aoc (aDrop A x) s = true → aDrop A x s = A s ∧ aoc A s = true ∧ A s 0 ≠ x := by
    intro s hs
    by_cases q : A s 0 = x
    · have e : aDrop A x s = eR := by unfold aDrop; rw [if_pos q]
      rw [aoc_eR e] at hs
      cases hs
    · have e : aDrop A x s = A s := by unfold aDrop; rw [if_neg q]
      refine ⟨e, ?_, q⟩
      unfold aoc at hs ⊢
      rw [e] at hs
      exact hs
  refine ⟨fun s t z o1 o2 e => ?_, fun s os => ?_, fun s t o1 o2 e => ?_, fun s os => ?_⟩
  · obtain ⟨a1, a2, -⟩ := ho s o1
    obtain ⟨b1, b2, -⟩ := ho t o2
    rw [a1, b1] at e ⊢
    exact o.1 s t z a2 b2 e
  · obtain ⟨a1, a2, a3⟩ := ho s os
    rw [a1, o.2.1 s a2]
    congr 1
    refine nC_congr (fun i _ => ?_)
    by_cases q : A i 0 = x
    · have e : aDrop A x i = eR := by unfold aDrop; rw [if_pos q]
      have h1 : pRule (aDrop A x) (A s 0) i = false := by unfold pRule; rw [aoc_eR e]; rfl
      have h2 : pRule A (A s 0) i = false := by
        cases z : pRule A (A s 0) i with
        | false => rfl
        | true => exact absurd (q.symm.trans (pRule_iff.mp z).2).symm a3
      rw [h1, h2]
    · have e : aDrop A x i = A i := by unfold aDrop; rw [if_neg q]
      unfold pRule aoc
      rw [e]
  · obtain ⟨a1, a2, -⟩ := ho s o1
    obtain ⟨b1, b2, -⟩ := ho t o2
    rw [a1, b1] at e ⊢
    exact o.2.2.1 s t a2 b2 e
  · obtain ⟨a1, a2, -⟩ := ho s os
    rw [a1]
    exact o.2.2.2 s a2
theorem ordA.ht {A : aR} (o : ordA A) (r : Int32) : ordA (aHt A r) := by
  have e : ∀ s i, i ≠ 6 → aHt A r s i = A s i := fun s i hi => by unfold aHt; rw [if_neg (fun z => hi z.1)]
  have ho : ∀ s, aoc (aHt A r) s = aoc A s := fun s => by unfold aoc; rw [e s 0 (by decide)]
  have hp : ∀ x, pRule (aHt A r) x = pRule A x := fun x => by
    funext s
    unfold pRule
    rw [ho, e s 0 (by decide)]
  refine ⟨fun s t z o1 o2 q => ?_, fun s os => ?_, fun s t o1 o2 q => ?_, fun s os => ?_⟩
  · rw [ho] at o1 o2
    rw [e s 4 (by decide), e t 4 (by decide)] at q
    rw [e s 0 (by decide), e t 0 (by decide)]
    exact o.1 s t z o1 o2 q
  · rw [ho] at os
    rw [e s 1 (by decide), e s 0 (by decide), hp]
    exact o.2.1 s os
  · rw [ho] at o1 o2
    rw [e s 0 (by decide), e t 0 (by decide)] at q
    rw [e s 4 (by decide), e t 4 (by decide), e s 5 (by decide), e t 5 (by decide)]
    exact o.2.2.1 s t o1 o2 q
  · rw [ho] at os
    rw [e s 4 (by decide), e s 5 (by decide)]
    exact o.2.2.2 s os
theorem kth_nC {A : aR} {s : Nat} (hs : s < 32) (h : aoc A s = true) : nC (aoc A) s < aCnt A := by
  have h1 := nC_mono (P := aoc A) (a := s + 1) (b := 32) (by omega)
  rw [nC_t h] at h1
  exact h1
theorem kth_inj {A : aR} {p q : Nat} (hp : p < aCnt A) (hq : q < aCnt A) (h : kth A p = kth A q) : p = q := by
  have h1 := (kth_ok hp).2.2
  rw [h, (kth_ok hq).2.2] at h1
  exact h1.symm
theorem aSp_oc {A : aR} {n p : Nat} (hn : n ≤ 32) (hp : p < aCnt A) : aoc (aSp A n) (aTg n p) = true := by
  unfold aoc
  rw [(aSp_is A hn).1 p hp]
  exact (kth_ok hp).2.1
/-- of the entries before the one with the place p, as many are of a rule as before -/
theorem nC_sp {A : aR} {a n : Nat} (w : wfA A a) (hn : n ≤ 32) (x : Int32) {p : Nat} (hp : p < aCnt A) : nC (pRule (aSp A n) x) (aTg n p) = nC (pRule A x) (kth A p) := by
  refine (nC_bij (fun u => aTg n (nC (aoc A) u)) (fun u hu hq => ?_) (fun u v hu hv hpu hpv e => ?_) (fun s hs hq => ?_)).symm
  · obtain ⟨q1, q2⟩ := pRule_iff.mp hq
    have hk := kth_nC (w.lt q1) q1
    have e := (aSp_is A hn).1 _ hk
    have ek := kth_at (w.lt q1) q1
    have lt : nC (aoc A) u < p := by
      rcases Nat.lt_or_ge (nC (aoc A) u) p with z | z
      · exact z
      · rcases Nat.lt_or_ge p (nC (aoc A) u) with y | y
        · have := kth_lt hk y
          rw [ek] at this
          omega
        · have : p = nC (aoc A) u := by omega
          rw [this, ek] at hu
          omega
    refine ⟨aTg_lt2 hn lt, pRule_iff.mpr ⟨aSp_oc hn hk, ?_⟩⟩
    rw [e, ek]
    exact q2
  · have e2 := aTg_inj hn e
    obtain ⟨q1, -⟩ := pRule_iff.mp hpu
    obtain ⟨r1, -⟩ := pRule_iff.mp hpv
    rw [← kth_at (w.lt q1) q1, ← kth_at (w.lt r1) r1, e2]
  · obtain ⟨q1, q2⟩ := pRule_iff.mp hq
    obtain ⟨c, c1, c2, c3⟩ := aSp_at hn q1
    obtain ⟨k1, k2, k3⟩ := kth_ok c1
    refine ⟨kth A c, ?_, pRule_iff.mpr ⟨k2, by rw [← c3]; exact q2⟩, by rw [k3]; exact c2⟩
    rcases Nat.lt_trichotomy c p with z | z | z
    · exact kth_lt hp z
    · subst z; omega
    · have := aTg_lt2 hn z; omega
theorem ordA.sp {A : aR} {a n : Nat} (w : wfA A a) (o : ordA A) (hn : n ≤ 32) : ordA (aSp A n) := by
  refine ⟨fun s t z o1 o2 e => ?_, fun s os => ?_, fun s t o1 o2 e => ?_, fun s os => ?_⟩
  · obtain ⟨p, p1, p2, p3⟩ := aSp_at hn o1
    obtain ⟨q, q1, q2, q3⟩ := aSp_at hn o2
    rw [p3, q3] at e ⊢
    have hpq : p < q := by
      rcases Nat.lt_trichotomy p q with y | y | y
      · exact y
      · subst y; omega
      · have := aTg_lt2 hn y
        omega
    exact o.1 _ _ (kth_lt q1 hpq) (kth_ok p1).2.1 (kth_ok q1).2.1 e
  · obtain ⟨p, p1, p2, p3⟩ := aSp_at hn os
    have e := nC_sp w hn (A (kth A p) 0) p1
    rw [p2] at e
    rw [p3, e]
    exact o.2.1 _ (kth_ok p1).2.1
  · obtain ⟨p, p1, p2, p3⟩ := aSp_at hn o1
    obtain ⟨q, q1, q2, q3⟩ := aSp_at hn o2
    rw [p3, q3] at e ⊢
    exact o.2.2.1 _ _ (kth_ok p1).2.1 (kth_ok q1).2.1 e
  · obtain ⟨p, p1, p2, p3⟩ := aSp_at hn os
    rw [p3]
    exact o.2.2.2 _ (kth_ok p1).2.1
