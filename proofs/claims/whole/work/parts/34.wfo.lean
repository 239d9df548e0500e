theorem rowOf_wf (r p m v k a : Int32) : rowOf r p m v k a 0 = r ∧ rowOf r p m v k a 1 = p ∧ rowOf r p m v k a 2 = m ∧ rowOf r p m v k a 3 = v &&& m ∧ rowOf r p m v k a 4 = k := ⟨rfl, rfl, rfl, rfl, rfl⟩
theorem and_and (v m : Nat) : (v &&& m) &&& m = v &&& m := by rw [Nat.and_assoc, Nat.and_self]
theorem wf_addS {x : aSt} {B : Nat} (w : Wf x B) (hB : B < 1000000) (h : aCnt x.1 < 32) {v m : Nat} (hv : v < 256) (hm : m < 256) (k a : Int32) : Wf (addS x (nI v) (nI m) k a) (B + 1) := by
  obtain ⟨a0, l0, e0, w⟩ := w
  refine ⟨a0 + 1, by omega, ?_, ?_⟩
  · unfold addS
    dsimp only
    rw [upd_at, if_neg (by decide), upd_at, if_pos rfl, e0, nI_add]
  · have hvm : v &&& m < 256 := Nat.lt_of_le_of_lt Nat.and_le_left hv
    refine (w.up (Nat.le_succ a0)).ins (x.2 0) k h (r := a0) (by omega) (by omega) e0 rfl (m := m) (v := v &&& m) hm hvm rfl ?_ (and_and v m) (fun s hs z => ?_) (Or.inl rfl)
    · exact nI_and (by omega) (by omega)
    · obtain ⟨⟨r, r1, r2⟩, -⟩ := w.2.2.2.1 s hs
      have z0 : x.1 s 0 = x.2 1 := z.1
      rw [r2, e0] at z0
      have := (nI_eq (by omega) (by omega)).mp z0
      omega
theorem aBlk_wf {P k a : Int32} {a0 h : Nat} (hh : h < 256) (ha : a0 < 1000000) : ∀ (d part f : Nat) (x : aR × Int32), part + d ≤ 1000 → f ≤ h + 1 → aCnt x.1 + bCn h f d ≤ 32 → wfA x.1 (a0 + 1) → (∀ s, aoc x.1 s = true → x.1 s 0 = nI a0 → ∃ j, j < part ∧ x.1 s 1 = nI j) → (part = 0 ∨ ∃ t, aoc x.1 t = true ∧ x.1 t 0 = nI a0 ∧ x.1 t 1 = 0) → wfA (aBlk P k a (nI a0) h d part f x).1 (a0 + 1) ∧ aCnt (aBlk P k a (nI a0) h d part f x).1 = aCnt x.1 + bCn h f d
  | 0, part, f, x, _, _, _, w, _, _ => ⟨w, rfl⟩
  | d + 1, part, f, x, hp, hf, hc, w, h1, h2 => by
    simp only [aBlk, bCn] at hc ⊢
    by_cases q : h < f
    · rw [if_pos q, if_pos q]
      exact ⟨w, rfl⟩
    · rw [if_neg q] at hc
      rw [if_neg q, if_neg q]
      have hbl := bS_le f h
      have hfit := bS_fit (f := f) (h := h) (by omega)
      have hlt : aCnt x.1 < 32 := by omega
      have hrn : rowOf (nI a0) (nI part) (nI (256 - bS f h)) (nI f) k a 0 ≠ -1 := nI_m1 (by omega)
      have hcn := aCnt_add P k hlt hrn
      obtain ⟨src, c1, c2, c3, c4, c5, c6⟩ := aAdd_src P k (rowOf (nI a0) (nI part) (nI (256 - bS f h)) (nI f) k a) hlt (srt_pb w.1 w.ge k)
      have w2 : wfA (aAdd x.1 P k (rowOf (nI a0) (nI part) (nI (256 - bS f h)) (nI f) k a)) (a0 + 1) := by
        refine w.ins P k hlt (r := a0) (by omega) (by omega) rfl rfl (m := 256 - bS f h) (v := f) (by omega) (by omega) rfl ?_ (bS_and2 (by omega) hh) (fun s hs z => ?_) ?_
        · exact bS_and (by omega) hh
        · obtain ⟨j, j1, j2⟩ := h1 s hs z.1
          have z1 : x.1 s 1 = nI part := z.2
          rw [j2] at z1
          have := (nI_eq (by omega) (by omega)).mp z1
          omega
        · rcases h2 with z | z
          · subst z
            exact Or.inl rfl
          · exact Or.inr z
      have hrow : aAdd x.1 P k (rowOf (nI a0) (nI part) (nI (256 - bS f h)) (nI f) k a) (oS x.1 P k) = rowOf (nI a0) (nI part) (nI (256 - bS f h)) (nI f) k a := by unfold aAdd; rw [if_pos rfl]
      generalize hA2 : aAdd x.1 P k (rowOf (nI a0) (nI part) (nI (256 - bS f h)) (nI f) k a) = A2 at *
      have ih := aBlk_wf (P := P) (k := k) (a := a) hh ha d (part + 1) (f + bS f h) (A2, x.2 + nI (oM x.1 k)) (by omega) (by omega) (by show aCnt A2 + _ ≤ 32; omega) w2 (fun s hs z => ?_) (Or.inr ?_)
      · refine ⟨ih.1, ?_⟩
        rw [ih.2]
        show aCnt A2 + _ = _
        omega
      · have hs : aoc A2 s = true := hs
        have z : A2 s 0 = nI a0 := z
        show ∃ j, j < part + 1 ∧ A2 s 1 = nI j
        by_cases y : s = oS x.1 P k
        · subst y
          rw [hrow]
          exact ⟨part, by omega, rfl⟩
        · have o2 : aoc x.1 (src s) = true := by unfold aoc at hs ⊢; rw [c1 s y] at hs; exact hs
          rw [c1 s y] at z ⊢
          obtain ⟨j, j1, j2⟩ := h1 _ o2 z
          exact ⟨j, by omega, j2⟩
      · show ∃ t, aoc A2 t = true ∧ A2 t 0 = nI a0 ∧ A2 t 1 = 0
        rcases h2 with z | ⟨t, t1, t2, t3⟩
        · subst z
          refine ⟨oS x.1 P k, ?_, by rw [hrow]; rfl, by rw [hrow]; rfl⟩
          unfold aoc
          rw [hrow]
          simpa using hrn
        · obtain ⟨s2, -, n2, e2⟩ := c6 t t1 (w.lt t1)
          refine ⟨s2, ?_, by rw [c1 s2 n2, e2]; exact t2, by rw [c1 s2 n2, e2]; exact t3⟩
          unfold aoc
          rw [c1 s2 n2, e2]
          exact t1
theorem wf_blkS {x : aSt} {B : Nat} (w : Wf x B) (hB : B < 1000000) {f h : Nat} (hf : f ≤ h) (hh : h < 256) (hc : aCnt x.1 + bCn h f 14 ≤ 32) (k a : Int32) : Wf (blkS x f h k a) (B + 1) := by
  obtain ⟨a0, l0, e0, w⟩ := w
  refine ⟨a0 + 1, by omega, ?_, ?_⟩
  · unfold blkS
    dsimp only
    rw [upd_at, if_neg (by decide), upd_at, if_pos rfl, e0, nI_add]
  · unfold blkS
    rw [e0]
    refine (aBlk_wf hh (by omega) 14 0 f (x.1, x.2 2) (by omega) (by omega) hc (w.up (Nat.le_succ a0)) (fun s hs z => ?_) (Or.inl rfl)).1
    obtain ⟨⟨r, r1, r2⟩, -⟩ := w.2.2.2.1 s hs
    have z : x.1 s 0 = nI a0 := z
    rw [r2] at z
    have := (nI_eq (by omega) (by omega)).mp z
    omega
theorem wfA.drop {A : aR} {a : Nat} (w : wfA A a) (x : Int32) : wfA (aDrop A x) a := by
  have ho : ∀ s, aoc (aDrop A x) s = true → aDrop A x s = A s ∧ aoc A s = true ∧ A s 0 ≠ x := by
    intro s hs
    by_cases q : A s 0 = x
    · have e : aDrop A x s = eR := by unfold aDrop; rw [if_pos q]
      rw [aoc_eR e] at hs
      cases hs
    · have e : aDrop A x s = A s := by unfold aDrop; rw [if_neg q]
      refine ⟨e, ?_, q⟩
      unfold aoc at hs ⊢
      rw [e] at hs
      exact hs
  refine ⟨fun s t z o1 o2 => ?_, fun s hs => ?_, fun s hs => ?_, fun s hs => ?_, fun s t o1 o2 e0 e1 => ?_⟩
  · obtain ⟨a1, a2, -⟩ := ho s o1
    obtain ⟨b1, b2, -⟩ := ho t o2
    rw [a1, b1]
    exact w.1 s t z a2 b2
  · unfold aDrop
    rw [w.2.1 s hs]
    split <;> rfl
  · unfold aDrop
    split
    · rfl
    · rename_i q
      refine w.2.2.1 s ?_
      unfold aoc at hs ⊢
      unfold aDrop at hs
      rw [if_neg q] at hs
      exact hs
  · obtain ⟨a1, a2, a3⟩ := ho s hs
    rw [a1]
    obtain ⟨x1, x2, t, t1, t2, t3⟩ := w.2.2.2.1 s a2
    have e : aDrop A x t = A t := by unfold aDrop; rw [if_neg (by rw [t2]; exact a3)]
    refine ⟨x1, x2, t, ?_, by rw [e]; exact t2, by rw [e]; exact t3⟩
    unfold aoc
    rw [e]
    exact t1
  · obtain ⟨a1, a2, -⟩ := ho s o1
    obtain ⟨b1, b2, -⟩ := ho t o2
    rw [a1, b1] at e0 e1
    exact w.2.2.2.2 s t a2 b2 e0 e1
theorem nC_ex {P : Nat → Bool} : ∀ {n p : Nat}, p < nC P n → ∃ s, s < n ∧ P s = true ∧ nC P s = p
  | 0, p, h => by simp [nC] at h
  | n + 1, p, h => by
    by_cases q : p < nC P n
    · obtain ⟨s, s1, s2, s3⟩ := nC_ex q
      exact ⟨s, by omega, s2, s3⟩
    · cases e : P n with
      | false => rw [nC_f e] at h; omega
      | true => rw [nC_t e] at h; exact ⟨n, by omega, e, by omega⟩
theorem kth_ok {A : aR} {p : Nat} (h : p < aCnt A) : kth A p < 32 ∧ aoc A (kth A p) = true ∧ nC (aoc A) (kth A p) = p := by
  obtain ⟨s, s1, s2, s3⟩ := nC_ex (P := aoc A) (n := 32) h
  have e := kth_at s1 s2
  rw [s3] at e
  rw [e]
  exact ⟨s1, s2, s3⟩
theorem kth_lt {A : aR} {p q : Nat} (hq : q < aCnt A) (h : p < q) : kth A p < kth A q := by
  obtain ⟨-, -, p3⟩ := kth_ok (A := A) (p := p) (by omega)
  obtain ⟨-, -, q3⟩ := kth_ok hq
  rcases Nat.lt_or_ge (kth A p) (kth A q) with z | z
  · exact z
  · have := nC_mono (P := aoc A) z
    omega
theorem aSp_at {A : aR} {n : Nat} (hn : n ≤ 32) {s : Nat} (h : aoc (aSp A n) s = true) : ∃ p, p < aCnt A ∧ aTg n p = s ∧ aSp A n s = A (kth A p) := by
  rcases Classical.em (∃ p, p < aCnt A ∧ aTg n p = s) with ⟨p, hp, e⟩ | q
  · exact ⟨p, hp, e, by rw [← e]; exact (aSp_is A hn).1 p hp⟩
  · have := (aSp_is A hn).2 s (fun p hp e => q ⟨p, hp, e⟩)
    rw [aoc_eR this] at h
    cases h
theorem wfA.sp {A : aR} {a n : Nat} (w : wfA A a) (hn : n ≤ 32) (hc : aCnt A ≤ n) : wfA (aSp A n) a := by
  refine ⟨fun s t z o1 o2 => ?_, fun s hs => ?_, fun s hs => ?_, fun s hs => ?_, fun s t o1 o2 e0 e1 => ?_⟩
  · obtain ⟨p, p1, p2, p3⟩ := aSp_at hn o1
    obtain ⟨q, q1, q2, q3⟩ := aSp_at hn o2
    rw [p3, q3]
    have hpq : p < q := by
      rcases Nat.lt_trichotomy p q with y | y | y
      · exact y
      · subst y; omega
      · have := aTg_lt2 hn y
        omega
    exact w.1 _ _ (kth_lt q1 hpq) (kth_ok p1).2.1 (kth_ok q1).2.1
  · refine (aSp_is A hn).2 s (fun p hp e => ?_)
    have := aTg_lt (n := n) (p := p) (by omega)
    omega
  · refine (aSp_is A hn).2 s (fun p hp e => ?_)
    have e2 := (aSp_is A hn).1 p hp
    rw [e] at e2
    have := (kth_ok hp).2.1
    unfold aoc at hs this
    rw [e2, this] at hs
    cases hs
  · obtain ⟨p, p1, p2, p3⟩ := aSp_at hn hs
    rw [p3]
    obtain ⟨x1, x2, t, t1, t2, t3⟩ := w.2.2.2.1 _ (kth_ok p1).2.1
    have ht := w.lt t1
    have hr : nC (aoc A) t < aCnt A := by
      have h1 := nC_mono (P := aoc A) (a := t + 1) (b := 32) (by omega)
      rw [nC_t t1] at h1
      exact h1
    have e := (aSp_is A hn).1 _ hr
    rw [kth_at ht t1] at e
    refine ⟨x1, x2, aTg n (nC (aoc A) t), ?_, by rw [e]; exact t2, by rw [e]; exact t3⟩
    show (!(aSp A n (aTg n (nC (aoc A) t)) 0 == -1)) = true
    rw [e]
    exact t1
  · obtain ⟨p, p1, p2, p3⟩ := aSp_at hn o1
    obtain ⟨q, q1, q2, q3⟩ := aSp_at hn o2
    rw [p3, q3] at e0 e1
    have := w.2.2.2.2 _ _ (kth_ok p1).2.1 (kth_ok q1).2.1 e0 e1
    have h1 := (kth_ok p1).2.2
    rw [this, (kth_ok q1).2.2] at h1
    rw [← p2, ← q2, h1]
theorem wfA.ht {A : aR} {a : Nat} (w : wfA A a) {r : Int32} (hr : r ≠ -1) : wfA (aHt A r) a := by
  have e : ∀ s i, i ≠ 6 → aHt A r s i = A s i := fun s i hi => by unfold aHt; rw [if_neg (fun z => hi z.1)]
  have ho : ∀ s, aoc (aHt A r) s = aoc A s := fun s => by unfold aoc; rw [e s 0 (by decide)]
  have en : ∀ s, aoc A s = false → aHt A r s = A s := fun s hs => by
    funext i
    unfold aHt
    rw [if_neg]
    rintro ⟨-, z, -⟩
    rw [w.2.2.1 s hs] at z
    exact hr z.symm
  refine ⟨fun s t z o1 o2 => ?_, fun s hs => ?_, fun s hs => ?_, fun s hs => ?_, fun s t o1 o2 e0 e1 => ?_⟩
  · rw [ho] at o1 o2
    rw [e s 4 (by decide), e t 4 (by decide)]
    exact w.1 s t z o1 o2
  · rw [en s (w.ge s hs)]
    exact w.2.1 s hs
  · rw [ho] at hs
    rw [en s hs]
    exact w.2.2.1 s hs
  · rw [ho] at hs
    obtain ⟨x1, x2, t, t1, t2, t3⟩ := w.2.2.2.1 s hs
    rw [e s 0 (by decide), e s 2 (by decide), e s 3 (by decide)]
    exact ⟨x1, x2, t, by rw [ho]; exact t1, by rw [e t 0 (by decide)]; exact t2, by rw [e t 1 (by decide)]; exact t3⟩
  · rw [ho] at o1 o2
    rw [e s 0 (by decide), e t 0 (by decide)] at e0
    rw [e s 1 (by decide), e t 1 (by decide)] at e1
    exact w.2.2.2.2 s t o1 o2 e0 e1
theorem wfA.occ {A : aR} {a s : Nat} (w : wfA A a) (ha : a < 2 ^ 31) (h : aoc A s = true) : ∃ r, r < a ∧ A s 0 = nI r := (w.2.2.2.1 s h).1
/-! ===== the whole object ===== -/
def WfO (s : aO) (B : Nat) : Prop := Wf s.1 B ∧ (∀ x, s.2.1 = some x → Wf x B) ∧ (∀ x, x ∈ s.2.2.1 → Wf x B) ∧ s.2.2.2.1 ≤ 60
theorem WfO.up {s : aO} {B C : Nat} (h : WfO s B) (hBC : B ≤ C) : WfO s C := ⟨h.1.up hBC, fun x hx => (h.2.1 x hx).up hBC, fun x hx => (h.2.2.1 x hx).up hBC, h.2.2.2⟩
theorem WfO.rc {s : aO} {x : aSt} {B C : Nat} (h : WfO s B) (hBC : B ≤ C) (hx : Wf x C) : WfO (oCur (oRec s) x) C := by
  refine ⟨hx, fun y hy => (h.2.1 y hy).up hBC, fun y hy => ?_, h.2.2.2⟩
  have hy : y ∈ (s.1 :: s.2.2.1).take 4 := hy
  rcases List.mem_cons.mp (List.mem_of_mem_take hy) with rfl | z
  · exact h.1.up hBC
  · exact (h.2.2.1 y z).up hBC
theorem wf_addRule {s : aO} {B : Nat} (h : WfO s B) (hB : B < 900000) (v m k a : Int32) : WfO (o_addRule s v m k a).2 (B + 5) := by
  unfold o_addRule
  split
  · rename_i q
    split
    · exact h.up (by omega)
    · rename_i q2
      simp only [argB, Bool.and_eq_true] at q
      obtain ⟨ev, lv⟩ := ixB_c (by decide) q.1
      obtain ⟨em, lm⟩ := ixB_c (by decide) q.2.1
      have hle := aCnt_le s.1.1
      rw [ev, em]
      exact h.rc (by omega) ((wf_addS h.1 (by omega) (by omega) lv lm k a).up (by omega))
  · exact h.up (by omega)
theorem wf_addRange {s : aO} {B : Nat} (h : WfO s B) (hB : B < 900000) (x y k a : Int32) : WfO (o_addRange s x y k a).2 (B + 5) := by
  unfold o_addRange
  split
  · rename_i q
    split
    · exact h.up (by omega)
    · rename_i q2
      simp only [Bool.and_eq_true] at q
      obtain ⟨-, -, l1, l2, l3⟩ := rgB_c q.1
      have hle := aCnt_le s.1.1
      exact h.rc (by omega) ((wf_blkS h.1 (by omega) l3 l2 (by omega) k a).up (by omega))
  · exact h.up (by omega)
theorem wf_remove {s : aO} {B : Nat} (h : WfO s B) (x : Int32) : WfO (o_remove s x).2 (B + 5) := by
  unfold o_remove
  split
  · exact h.up (by omega)
  · obtain ⟨a0, l0, e0, w⟩ := h.1
    exact h.rc (by omega) ⟨a0, by omega, e0, w.drop x⟩
theorem wf_setPlacing {s : aO} {B : Nat} (h : WfO s B) (x : Int32) : WfO (o_setPlacing s x).2 (B + 5) := by
  unfold o_setPlacing
  split
  · split
    · exact h.up (by omega)
    · obtain ⟨a0, l0, e0, w⟩ := h.1
      refine h.rc (by omega) ⟨a0, by omega, ?_, w⟩
      dsimp only
      rw [upd_at, if_neg (by decide)]
      exact e0
  · exact h.up (by omega)
theorem wf_re {s : aO} {B n : Nat} (h : WfO s B) (hn : n ≤ 32) (hc : aCnt s.1.1 ≤ n) : WfO (o_re s n).2 (B + 5) := by
  unfold o_re
  split
  · exact h.up (by omega)
  · obtain ⟨a0, l0, e0, w⟩ := h.1
    refine h.rc (by omega) ⟨a0, by omega, ?_, w.sp hn hc⟩
    dsimp only
    rw [upd_at, if_neg (by decide)]
    exact e0
theorem wf_search {s : aO} {B : Nat} (h : WfO s B) (hB : B < 900000) (x : Int32) : WfO (o_search s x).2 (B + 5) := by
  unfold o_search
  split
  · split
    · rename_i q
      obtain ⟨a0, l0, e0, w⟩ := h.1
      obtain ⟨r, r1, r2⟩ := w.occ (by omega) (aFd_oc q)
      refine h.rc (by omega) ⟨a0, by omega, ?_, w.ht (by rw [r2]; exact nI_m1 (by omega))⟩
      dsimp only
      rw [upd_at, if_neg (by decide), upd_at, if_neg (by decide)]
      exact e0
    · exact h.up (by omega)
  · exact h.up (by omega)
theorem wf_type {s : aO} {B : Nat} (h : WfO s B) (x : Int32) : WfO (o_type s x).2 (B + 5) := by
  unfold o_type
  split
  · rename_i q
    have h2 := h.up (show B ≤ B + 5 by omega)
    exact ⟨h2.1, h2.2.1, h2.2.2.1, by show s.2.2.2.1 + 1 ≤ 60; omega⟩
  · exact h.up (by omega)
theorem wf_clearText {s : aO} {B : Nat} (h : WfO s B) : WfO (o_clearText s).2 (B + 5) := by
  have h2 := h.up (show B ≤ B + 5 by omega)
  exact ⟨h2.1, h2.2.1, h2.2.2.1, Nat.zero_le _⟩
theorem wf_txt {x : aSt} {B : Nat} (w : Wf x B) (hB : B < 900000) {T : tT} {n : Nat} : ∀ i, i ≤ 100 → aCnt x.1 + i ≤ 32 → (∀ j, j < i → eV T (tB T n j) 8 < 256 ∧ eM T (tB T n j) 8 < 256) → Wf (txtS x T n i) (B + i) ∧ aCnt (txtS x T n i).1 = aCnt x.1 + i
  | 0, _, _, _ => ⟨w, rfl⟩
  | i + 1, hi, hc, hb => by
    obtain ⟨w1, c1⟩ := wf_txt w hB (T := T) (n := n) i (by omega) (by omega) (fun j hj => hb j (by omega))
    obtain ⟨b1, b2⟩ := hb i (by omega)
    have w2 := wf_addS w1 (by omega) (by omega) b1 b2 (rRank T n (tB T n i)) (rAct T n (tB T n i))
    refine ⟨w2, ?_⟩
    obtain ⟨a0, l0, e0, -⟩ := w1
    show aCnt (addS (txtS x T n i) _ _ _ _).1 = _
    unfold addS
    rw [aCnt_add _ _ (by omega) (by show (txtS x T n i).2 1 ≠ -1; rw [e0]; exact nI_m1 (by omega)), c1]
    omega
theorem e_lt (T : tT) (p : Nat) : eV T p 8 < 256 ∧ eM T p 8 < 256 := by
  have h1 := eV_le T p 8 (by decide)
  have h2 := eM_le T p 8 (by decide)
  have : 256 / 2 ^ 8 = 1 := by decide
  omega
theorem wf_addText {s : aO} {B : Nat} (h : WfO s B) (hB : B < 900000) : WfO (o_addText s).2 (B + 5) := by
  unfold o_addText
  have hok := tx_ok (T := s.2.2.2.2) (n := s.2.2.2.1) 5 0
  rw [show tB s.2.2.2.2 s.2.2.2.1 0 = 0 from rfl] at hok
  generalize hg : tx s.2.2.2.2 s.2.2.2.1 5 0 0 = g at *
  split
  · rename_i q
    obtain ⟨-, l5, -⟩ := hok q
    split
    · exact h.up (by omega)
    · rename_i q2
      have hle := aCnt_le s.1.1
      exact h.rc (by omega) ((wf_txt h.1 hB g.2.2 (by omega) (by omega) (fun j _ => e_lt _ _)).1.up (by omega))
  · exact h.up (by omega)
theorem wf_undo {s : aO} {B : Nat} (h : WfO s B) : WfO (o_undo s).2 (B + 5) := by
  obtain ⟨c, sn, hi, t⟩ := s
  have h := h.up (show B ≤ B + 5 by omega)
  cases hi with
  | nil => exact h
  | cons x l => exact ⟨h.2.2.1 x List.mem_cons_self, h.2.1, fun y hy => h.2.2.1 y (List.mem_cons_of_mem _ hy), h.2.2.2⟩
theorem wf_keep {s : aO} {B : Nat} (h : WfO s B) : WfO (o_keep s).2 (B + 5) := by
  have h := h.up (show B ≤ B + 5 by omega)
  exact ⟨h.1, fun x hx => by cases hx; exact h.1, h.2.2.1, h.2.2.2⟩
theorem wf_restore {s : aO} {B : Nat} (h : WfO s B) : WfO (o_restore s).2 (B + 5) := by
  obtain ⟨c, sn, hi, t⟩ := s
  have h := h.up (show B ≤ B + 5 by omega)
  cases sn with
  | none => exact h
  | some x => exact h.rc (Nat.le_refl _) (h.2.1 x rfl)
