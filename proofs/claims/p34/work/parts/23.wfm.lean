theorem rowOf_wf (r p m v k a : Int32) : rowOf r p m v k a 0 = r ∧ rowOf r p m v k a 1 = p ∧ rowOf r p m v k a 2 = m ∧ rowOf r p m v k a 3 = v &&& m ∧ rowOf r p m v k a 4 = k := ⟨rfl, rfl, rfl, rfl, rfl⟩
theorem and_and (v m : Nat) : (v &&& m) &&& m = v &&& m := by rw [Nat.and_assoc, Nat.and_self]
theorem wf_addS {x : aSt} {B : Nat} (w : Wf x B) (hB : B < 1000000) (h : aCnt x.1 < 32) {v m : Nat} (hv : v < 256) (hm : m < 256) (k a : Int32) : Wf (addS x (nI v) (nI m) k a) (B + 1) := by
  obtain ⟨a0, l0, e0, w⟩ := w
  refine ⟨a0 + 1, by omega, ?_, ?_⟩
  · unfold addS
    dsimp only
    rw [upd_at, if_neg (by decide), upd_at, if_pos rfl, e0, nI_add]
  · have hvm : v &&& m < 256 := Nat.lt_of_le_of_lt Nat.and_le_left hv
    refine (w.up (Nat.le_succ a0)).ins (x.2 0) k h (r := a0) (by omega) (by omega) e0 rfl (m := m) (v := v &&& m) hm hvm rfl ?_ (and_and v m) (fun s hs z => ?_) (Or.inl rfl)
    · exact nI_and (by omega) (by omega)
    · obtain ⟨⟨r, r1, r2⟩, -⟩ := w.2.2.2.1 s hs
      have z0 : x.1 s 0 = x.2 1 := z.1
      rw [r2, e0] at z0
      have := (nI_eq (by omega) (by omega)).mp z0
      omega
theorem aBlk_wf {P k a : Int32} {a0 h : Nat} (hh : h < 256) (ha : a0 < 1000000) : ∀ (d part f : Nat) (x : aR × Int32), part + d ≤ 1000 → f ≤ h + 1 → aCnt x.1 + bCn h f d ≤ 32 → wfA x.1 (a0 + 1) → (∀ s, aoc x.1 s = true → x.1 s 0 = nI a0 → ∃ j, j < part ∧ x.1 s 1 = nI j) → (part = 0 ∨ ∃ t, aoc x.1 t = true ∧ x.1 t 0 = nI a0 ∧ x.1 t 1 = 0) → wfA (aBlk P k a (nI a0) h d part f x).1 (a0 + 1) ∧ aCnt (aBlk P k a (nI a0) h d part f x).1 = aCnt x.1 + bCn h f d
  | 0, part, f, x, _, _, _, w, _, _ => ⟨w, rfl⟩
  | d + 1, part, f, x, hp, hf, hc, w, h1, h2 => by
    simp only [aBlk, bCn] at hc ⊢
    by_cases q : h < f
    · rw [if_pos q, if_pos q]
      exact ⟨w, rfl⟩
    · rw [if_neg q] at hc
      rw [if_neg q, if_neg q]
      have hbl := bS_le f h
      have hfit := bS_fit (f := f) (h := h) (by omega)
      have hlt : aCnt x.1 < 32 := by omega
      have hrn : rowOf (nI a0) (nI part) (nI (256 - bS f h)) (nI f) k a 0 ≠ -1 := nI_m1 (by omega)
      have hcn := aCnt_add P k hlt hrn
      obtain ⟨src, c1, c2, c3, c4, c5, c6⟩ := aAdd_src P k (rowOf (nI a0) (nI part) (nI (256 - bS f h)) (nI f) k a) hlt (srt_pb w.1 w.ge k)
      have w2 : wfA (aAdd x.1 P k (rowOf (nI a0) (nI part) (nI (256 - bS f h)) (nI f) k a)) (a0 + 1) := by
        refine w.ins P k hlt (r := a0) (by omega) (by omega) rfl rfl (m := 256 - bS f h) (v := f) (by omega) (by omega) rfl ?_ (bS_and2 (by omega) hh) (fun s hs z => ?_) ?_
        · exact bS_and (by omega) hh
        · obtain ⟨j, j1, j2⟩ := h1 s hs z.1
          have z1 : x.1 s 1 = nI part := z.2
          rw [j2] at z1
          have := (nI_eq (by omega) (by omega)).mp z1
          omega
        · rcases h2 with z | z
          · subst z
            exact Or.inl rfl
          · exact Or.inr z
      have hrow : aAdd x.1 P k (rowOf (nI a0) (nI part) (nI (256 - bS f h)) (nI f) k a) (oS x.1 P k) = rowOf (nI a0) (nI part) (nI (256 - bS f h)) (nI f) k a := by unfold aAdd; rw [if_pos rfl]
      generalize hA2 : aAdd x.1 P k (rowOf (nI a0) (nI part) (nI (256 - bS f h)) (nI f) k a) = A2 at *
      have ih := aBlk_wf (P := P) (k := k) (a := a) hh ha d (part + 1) (f + bS f h) (A2, x.2 + nI (oM x.1 k)) (by omega) (by omega) (by show aCnt A2 + _ ≤ 32; omega) w2 (fun s hs z => ?_) (Or.inr ?_)
      · refine ⟨ih.1, ?_⟩
        rw [ih.2]
        show aCnt A2 + _ = _
        omega
      · have hs : aoc A2 s = true := hs
        have z : A2 s 0 = nI a0 := z
        show ∃ j, j < part + 1 ∧ A2 s 1 = nI j
        by_cases y : s = oS x.1 P k
        · subst y
          rw [hrow]
          exact ⟨part, by omega, rfl⟩
        · have o2 : aoc x.1 (src s) = true := by unfold aoc at hs ⊢; rw [c1 s y] at hs; exact hs
          rw [c1 s y] at z ⊢
          obtain ⟨j, j1, j2⟩ := h1 _ o2 z
          exact ⟨j, by omega, j2⟩
      · show ∃ t, aoc A2 t = true ∧ A2 t 0 = nI a0 ∧ A2 t 1 = 0
        rcases h2 with z | ⟨t, t1, t2, t3⟩
        · subst z
          refine ⟨oS x.1 P k, ?_, by rw [hrow]; rfl, by rw [hrow]; rfl⟩
          unfold aoc
          rw [hrow]
          simpa using hrn
        · obtain ⟨s2, -, n2, e2⟩ := c6 t t1 (w.lt t1)
          refine ⟨s2, ?_, by rw [c1 s2 n2, e2]; exact t2, by rw [c1 s2 n2, e2]; exact t3⟩
          unfold aoc
          rw [c1 s2 n2, e2]
          exact t1
theorem wf_blkS {x : aSt} {B : Nat} (w : Wf x B) (hB : B < 1000000) {f h : Nat} (hf : f ≤ h) (hh : h < 256) (hc : aCnt x.1 + bCn h f 14 ≤ 32) (k a : Int32) : Wf (blkS x f h k a) (B + 1) := by
  obtain ⟨a0, l0, e0, w⟩ := w
  refine ⟨a0 + 1, by omega, ?_, ?_⟩
  · unfold blkS
    dsimp only
    rw [upd_at, if_neg (by decide), upd_at, if_pos rfl, e0, nI_add]
  · unfold blkS
    rw [e0]
    refine (aBlk_wf hh (by omega) 14 0 f (x.1, x.2 2) (by omega) (by omega) hc (w.up (Nat.le_succ a0)) (fun s hs z => ?_) (Or.inl rfl)).1
    obtain ⟨⟨r, r1, r2⟩, -⟩ := w.2.2.2.1 s hs
    have z : x.1 s 0 = nI a0 := z
    rw [r2] at z
    have := (nI_eq (by omega) (by omega)).mp z
    omega
theorem wfA.drop {A : aR} {a : Nat} (w : wfA A a) (x : Int32) : wfA (aDrop A x) a := by
  have ho : ∀ s, aoc (aDrop A x) s = true → aDrop A x s = A s ∧ aoc A s = true ∧ A s 0 ≠ x := by
    intro s hs
    by_cases q : A s 0 = x
    · have e : aDrop A x s = eR := by unfold aDrop; rw [if_pos q]
      rw [aoc_eR e] at hs
      cases hs
    · have e : aDrop A x s = A s := by unfold aDrop; rw [if_neg q]
      refine ⟨e, ?_, q⟩
      unfold aoc at hs ⊢
      rw [e] at hs
      exact hs
  refine ⟨fun s t z o1 o2 => ?_, fun s hs => ?_, fun s hs => ?_, fun s hs => ?_, fun s t o1 o2 e0 e1 => ?_⟩
  · obtain ⟨a1, a2, -⟩ := ho s o1
    obtain ⟨b1, b2, -⟩ := ho t o2
    rw [a1, b1]
    exact w.1 s t z a2 b2
  · unfold aDrop
    rw [w.2.1 s hs]
    split <;> rfl
  · unfold aDrop
    split
    · rfl
    · rename_i q
      refine w.2.2.1 s ?_
      unfold aoc at hs ⊢
      unfold aDrop at hs
      rw [if_neg q] at hs
      exact hs
  · obtain ⟨a1, a2, a3⟩ := ho s hs
    rw [a1]
    obtain ⟨x1, x2, t, t1, t2, t3⟩ := w.2.2.2.1 s a2
    have e : aDrop A x t = A t := by unfold aDrop; rw [if_neg (by rw [t2]; exact a3)]
    refine ⟨x1, x2, t, ?_, by rw [e]; exact t2, by rw [e]; exact t3⟩
    unfold aoc
    rw [e]
    exact t1
  · obtain ⟨a1, a2, -⟩ := ho s o1
    obtain ⟨b1, b2, -⟩ := ho t o2
    rw [a1, b1] at e0 e1
    exact w.2.2.2.2 s t a2 b2 e0 e1
theorem nC_ex {P : Nat → Bool} : ∀ {n p : Nat}, p < nC P n → ∃ s, s < n ∧ P s = true ∧ nC P s = p
  | 0, p, h => by simp [nC] at h
  | n + 1, p, h => by
    by_cases q : p < nC P n
    · obtain ⟨s, s1, s2, s3⟩ := nC_ex q
      exact ⟨s, by omega, s2, s3⟩
    · cases e : P n with
      | false => rw [nC_f e] at h; omega
      | true => rw [nC_t e] at h; exact ⟨n, by omega, e, by omega⟩
theorem kth_ok {A : aR} {p : Nat} (h : p < aCnt A) : kth A p < 32 ∧ aoc A (kth A p) = true ∧ nC (aoc A) (kth A p) = p := by
  obtain ⟨s, s1, s2, s3⟩ := nC_ex (P := aoc A) (n := 32) h
  have e := kth_at s1 s2
  rw [s3] at e
  rw [e]
  exact ⟨s1, s2, s3⟩
theorem kth_lt {A : aR} {p q : Nat} (hq : q < aCnt A) (h : p < q) : kth A p < kth A q := by
  obtain ⟨-, -, p3⟩ := kth_ok (A := A) (p := p) (by omega)
  obtain ⟨-, -, q3⟩ := kth_ok hq
  rcases Nat.lt_or_ge (kth A p) (kth A q) with z | z
  · exact z
  · have := nC_mono (P := aoc A) z
    omega
theorem aSp_at {A : aR} {n : Nat} (hn : n ≤ 32) {s : Nat} (h : aoc (aSp A n) s = true) : ∃ p, p < aCnt A ∧ aTg n p = s ∧ aSp A n s = A (kth A p) := by
  rcases Classical.em (∃ p, p < aCnt A ∧ aTg n p = s) with ⟨p, hp, e⟩ | q
  · exact ⟨p, hp, e, by rw [← e]; exact (aSp_is A hn).1 p hp⟩
  · have := (aSp_is A hn).2 s (fun p hp e => q ⟨p, hp, e⟩)
    rw [aoc_eR this] at h
    cases h
theorem wfA.sp {A : aR} {a n : Nat} (w : wfA A a) (hn : n ≤ 32) (hc : aCnt A ≤ n) : wfA (aSp A n) a := by
  refine ⟨fun s t z o1 o2 => ?_, fun s hs => ?_, fun s hs => ?_, fun s hs => ?_, fun s t o1 o2 e0 e1 => ?_⟩
  · obtain ⟨p, p1, p2, p3⟩ := aSp_at hn o1
    obtain ⟨q, q1, q2, q3⟩ := aSp_at hn o2
    rw [p3, q3]
    have hpq : p < q := by
      rcases Nat.lt_trichotomy p q with y | y | y
      · exact y
      · subst y; omega
      · have := aTg_lt2 hn y
        omega
    exact w.1 _ _ (kth_lt q1 hpq) (kth_ok p1).2.1 (kth_ok q1).2.1
  · refine (aSp_is A hn).2 s (fun p hp e => ?_)
    have := aTg_lt (n := n) (p := p) (by omega)
    omega
  · refine (aSp_is A hn).2 s (fun p hp e => ?_)
    have e2 := (aSp_is A hn).1 p hp
    rw [e] at e2
    have := (kth_ok hp).2.1
    unfold aoc at hs this
    rw [e2, this] at hs
    cases hs
  · obtain ⟨p, p1, p2, p3⟩ := aSp_at hn hs
    rw [p3]
    obtain ⟨x1, x2, t, t1, t2, t3⟩ := w.2.2.2.1 _ (kth_ok p1).2.1
    have ht := w.lt t1
    have hr : nC (aoc A) t < aCnt A := by
      have h1 := nC_mono (P := aoc A) (a := t + 1) (b := 32) (by omega)
      rw [nC_t t1] at h1
      exact h1
    have e := (aSp_is A hn).1 _ hr
    rw [kth_at ht t1] at e
    refine ⟨x1, x2, aTg n (nC (aoc A) t), ?_, by rw [e]; exact t2, by rw [e]; exact t3⟩
    show (!(aSp A n (aTg n (nC (aoc A) t)) 0 == -1)) = true
    rw [e]
    exact t1
  · obtain ⟨p, p1, p2, p3⟩ := aSp_at hn o1
    obtain ⟨q, q1, q2, q3⟩ := aSp_at hn o2
    rw [p3, q3] at e0 e1
    have := w.2.2.2.2 _ _ (kth_ok p1).2.1 (kth_ok q1).2.1 e0 e1
    have h1 := (kth_ok p1).2.2
    rw [this, (kth_ok q1).2.2] at h1
    rw [← p2, ← q2, h1]
theorem wfA.ht {A : aR} {a : Nat} (w : wfA A a) {r : Int32} (hr : r ≠ -1) : wfA (aHt A r) a := by
  have e : ∀ s i, i ≠ 6 → aHt A r s i = A s i := fun s i hi => by unfold aHt; rw [if_neg (fun z => hi z.1)]
  have ho : ∀ s, aoc (aHt A r) s = aoc A s := fun s => by unfold aoc; rw [e s 0 (by decide)]
  have en : ∀ s, aoc A s = false → aHt A r s = A s := fun s hs => by
    funext i
    unfold aHt
    rw [if_neg]
    rintro ⟨-, z, -⟩
    rw [w.2.2.1 s hs] at z
    exact hr z.symm
  refine ⟨fun s t z o1 o2 => ?_, fun s hs => ?_, fun s hs => ?_, fun s hs => ?_, fun s t o1 o2 e0 e1 => ?_⟩
  · rw [ho] at o1 o2
    rw [e s 4 (by decide), e t 4 (by decide)]
    exact w.1 s t z o1 o2
  · rw [en s (w.ge s hs)]
    exact w.2.1 s hs
  · rw [ho] at hs
    rw [en s hs]
    exact w.2.2.1 s hs
  · rw [ho] at hs
    obtain ⟨x1, x2, t, t1, t2, t3⟩ := w.2.2.2.1 s hs
    rw [e s 0 (by decide), e s 2 (by decide), e s 3 (by decide)]
    exact ⟨x1, x2, t, by rw [ho]; exact t1, by rw [e t 0 (by decide)]; exact t2, by rw [e t 1 (by decide)]; exact t3⟩
  · rw [ho] at o1 o2
    rw [e s 0 (by decide), e t 0 (by decide)] at e0
    rw [e s 1 (by decide), e t 1 (by decide)] at e1
    exact w.2.2.2.2 s t o1 o2 e0 e1
theorem wfA.occ {A : aR} {a s : Nat} (w : wfA A a) (ha : a < 2 ^ 31) (h : aoc A s = true) : ∃ r, r < a ∧ A s 0 = nI r := (w.2.2.2.1 s h).1
