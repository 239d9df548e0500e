/-! ===== what holds of the state at all times ===== -/
def Wg (x : aSt) (B : Nat) : Prop := (∃ a, a ≤ B ∧ x.2 1 = nI a ∧ wfA x.1 a) ∧ ordA x.1 ∧ ∃ p, p < 3 ∧ x.2 0 = nI p
theorem Wg.up {x : aSt} {B C : Nat} (h : Wg x B) (hBC : B ≤ C) : Wg x C := by
  obtain ⟨⟨a, a1, a2⟩, o⟩ := h
  exact ⟨⟨a, by omega, a2⟩, o⟩
theorem Wg.rows {x : aSt} {B : Nat} (h : Wg x B) : wfA x.1 B := by
  obtain ⟨⟨a, a1, -, w⟩, -⟩ := h
  exact w.up a1
theorem slot_of {A : aR} {a s : Nat} (w : wfA A a) (hs : aoc A s = true) : nF (pPart A (A s 0) (A s 1)) 0 32 = s := by
  have hp : pPart A (A s 0) (A s 1) s = true := by simp [pPart, hs]
  have hl := w.lt hs
  rcases Nat.lt_trichotomy (nF (pPart A (A s 0) (A s 1)) 0 32) s with z | z | z
  · have h1 := nF_yes (P := pPart A (A s 0) (A s 1)) 32 0 (by omega)
    simp only [pPart, Bool.and_eq_true, beq_iff_eq] at h1
    have := w.2.2.2.2 _ s h1.1 hs h1.2.1 h1.2.2
    omega
  · exact z
  · have := nF_no (P := pPart A (A s 0) (A s 1)) 32 0 s (Nat.zero_le _) z
    rw [hp] at this
    cases this
theorem slot_of' {A : aR} {a s : Nat} (w : wfA A a) (hs : aoc A s = true) {r q : Int32} (hr : A s 0 = r) (hq : A s 1 = q) : nF (pPart A r q) 0 32 = s := by
  subst hr
  subst hq
  exact slot_of w hs
theorem nC_lt {P : Nat → Bool} {s n : Nat} (hs : s < n) (h : P s = true) : nC P s < nC P n := by
  have h1 := nC_mono (P := P) (a := s + 1) (b := n) (by omega)
  rw [nC_t h] at h1
  exact h1
theorem q_of_at {A : aR} {a t : Nat} (w : wfA A a) (ht : aoc A t = true) {r : Int32} (hr : A t 0 = r) (h0 : A t 1 = 0) (j : Nat) : q_of A j r = A t j := by
  have e := slot_of' w ht hr h0
  have hl := w.lt ht
  unfold q_of
  rw [e, if_pos hl]
theorem q_of_45 {A : aR} {a s : Nat} (w : wfA A a) (o : ordA A) (hs : aoc A s = true) : q_of A 4 (A s 0) = A s 4 ∧ q_of A 5 (A s 0) = A s 5 := by
  obtain ⟨-, -, t, t1, t2, t3⟩ := w.2.2.2.1 s hs
  obtain ⟨h1, h2⟩ := o.2.2.1 t s t1 hs t2
  rw [q_of_at w t1 t2 t3 4, q_of_at w t1 t2 t3 5]
  exact ⟨h1, h2⟩
theorem nC_rule_pos {A : aR} {a s : Nat} (w : wfA A a) (hs : aoc A s = true) : 0 < nC (pRule A (A s 0)) 32 := by
  have := nC_lt (P := pRule A (A s 0)) (w.lt hs) (pRule_iff.mpr ⟨hs, rfl⟩)
  omega
theorem q_parts_is {A : aR} {a s : Nat} (w : wfA A a) (hs : aoc A s = true) : q_parts A (A s 0) = nI (nC (pRule A (A s 0)) 32) := by
  have := nC_rule_pos w hs
  unfold q_parts
  rw [if_neg (by omega)]
/-- the slot of the part p of a rule -/
theorem q_slot_at {A : aR} {a : Nat} (w : wfA A a) (o : ordA A) {r : Int32} {p : Nat} (h : p < nC (pRule A r) 32) : ∃ t, t < 32 ∧ aoc A t = true ∧ A t 0 = r ∧ nC (pRule A r) t = p ∧ q_slotOf A r (nI p) = nI t := by
  obtain ⟨t, t1, t2, t3⟩ := nC_ex h
  obtain ⟨h1, h2⟩ := pRule_iff.mp t2
  have e := o.2.1 t h1
  rw [h2, t3] at e
  refine ⟨t, t1, h1, h2, t3, ?_⟩
  unfold q_slotOf aN
  rw [slot_of' w h1 h2 e, if_pos t1]
theorem q_slot_no {A : aR} (o : ordA A) {r : Int32} {p : Nat} (hp : p < 2 ^ 31) (h : nC (pRule A r) 32 ≤ p) : q_slotOf A r (nI p) = -1 := by
  unfold q_slotOf aN
  rw [if_neg]
  intro q
  obtain ⟨h1, h2, h3⟩ := pPart_oc q
  have e := o.2.1 _ h1
  rw [h2, h3] at e
  have hl := nC_lt (P := pRule A r) q (pRule_iff.mpr ⟨h1, h2⟩)
  have := nC_le (pRule A r) 32
  have := (nI_eq (by omega) (by omega)).mp e
  omega
theorem q_slot_0 {A : aR} {a s : Nat} (w : wfA A a) (o : ordA A) (hs : aoc A s = true) : q_slotOf A (A s 0) (nI 0) = nI s ↔ pP0 A s = true := by
  obtain ⟨t, t1, t2, t3, t4, t5⟩ := q_slot_at w o (nC_rule_pos w hs)
  have hl := w.lt hs
  rw [t5]
  constructor
  · intro e
    have := (nI_eq (by omega) (by omega)).mp e
    subst this
    have e := o.2.1 t hs
    rw [t4] at e
    simp [pP0, hs, e]
    rfl
  · intro h
    simp only [pP0, Bool.and_eq_true, beq_iff_eq] at h
    have e := o.2.1 t t2
    rw [t3, t4] at e
    rw [w.2.2.2.2 t s t2 hs t3 (by rw [e, h.2]; rfl)]
/-- a rule that there is not -/
theorem no_rule {A : aR} {a : Nat} (w : wfA A a) (ha : a < 2 ^ 31) {r : Int32} (h : ∀ n, n < a → r ≠ nI n) : nC (pRule A r) 32 = 0 := nC_0.mpr (fun i _ => by
  cases e : pRule A r i with
  | false => rfl
  | true =>
    exfalso
    obtain ⟨h1, h2⟩ := pRule_iff.mp e
    obtain ⟨n, n1, n2⟩ := (w.2.2.2.1 i h1).1
    exact h n n1 (by rw [← h2, n2]))
theorem no_slot {A : aR} {r q : Int32} (h : nC (pRule A r) 32 = 0) : nF (pPart A r q) 0 32 = 32 := by
  have h2 := (nF_le (P := pPart A r q) 32 0).2
  rcases Nat.lt_or_ge (nF (pPart A r q) 0 32) 32 with z | z
  · obtain ⟨h1, h3, -⟩ := pPart_oc z
    have := nC_0.mp h _ z
    rw [pRule_iff.mpr ⟨h1, h3⟩] at this
    cases this
  · omega
theorem wg_addS {x : aSt} {B : Nat} (g : Wg x B) (hB : B < 1000000) (h : aCnt x.1 < 32) {v m kk aa : Nat} (hv : v < 256) (hm : m < 256) (hk : kk < 100) (ha : aa < 10) : Wg (addS x (nI v) (nI m) (nI kk) (nI aa)) (B + 1) ∧ aCnt (addS x (nI v) (nI m) (nI kk) (nI aa)).1 = aCnt x.1 + 1 ∧ nC (pRule (addS x (nI v) (nI m) (nI kk) (nI aa)).1 (x.2 1)) 32 = 1 ∧ q_of (addS x (nI v) (nI m) (nI kk) (nI aa)).1 4 (x.2 1) = nI kk ∧ q_of (addS x (nI v) (nI m) (nI kk) (nI aa)).1 6 (x.2 1) = 0 := by
  obtain ⟨⟨a0, l0, e0, w⟩, o, p, hp, ep⟩ := g
  obtain ⟨a1, l1, e1, w1⟩ := wf_addS ⟨a0, l0, e0, w⟩ hB h hv hm (nI kk) (nI aa)
  have hrn : rowOf (x.2 1) 0 (nI m) (nI v) (nI kk) (nI aa) 0 ≠ -1 := by
    show x.2 1 ≠ -1
    rw [e0]
    exact nI_m1 (by omega)
  have c0 : nC (pRule x.1 (x.2 1)) 32 = 0 := no_rule w (by omega) (fun n hn e => by
    rw [e0] at e
    have := (nI_eq (by omega) (by omega)).mp e
    omega)
  have hno : ∀ s, aoc x.1 s = true → x.1 s 0 ≠ x.2 1 := fun s hs e => by
    have := nC_0.mp c0 s (w.lt hs)
    rw [pRule_iff.mpr ⟨hs, e⟩] at this
    cases this
  obtain ⟨i1, i2, i3, i4, i5⟩ := o.ins w (x.2 0) (nI kk) (row := rowOf (x.2 1) 0 (nI m) (nI v) (nI kk) (nI aa)) h hrn rfl (fun s hs => by
    show x.1 s 0 ≤ x.2 1
    obtain ⟨r, r1, r2⟩ := (w.2.2.2.1 s hs).1
    rw [r2, e0]
    exact (nI_leI (by omega) (by omega)).mpr (by omega)) (fun s hs e => absurd e (hno s hs)) (by
    show (0 : Int32) = nI (nC (pRule x.1 (x.2 1)) 32)
    rw [c0]
    rfl) ⟨kk, hk, rfl⟩ ⟨aa, ha, rfl⟩
  have i2 : nC (pRule (addS x (nI v) (nI m) (nI kk) (nI aa)).1 (x.2 1)) 32 = nC (pRule x.1 (x.2 1)) 32 + 1 := i2
  have i3 : (addS x (nI v) (nI m) (nI kk) (nI aa)).1 (oS x.1 (x.2 0) (nI kk)) = rowOf (x.2 1) 0 (nI m) (nI v) (nI kk) (nI aa) := i3
  refine ⟨⟨⟨a1, l1, e1, w1⟩, i1, p, hp, ?_⟩, aCnt_add _ _ h hrn, by rw [i2, c0], ?_, ?_⟩
  · show upd (upd x.2 1 (x.2 1 + nI 1)) 2 (x.2 2 + nI (oM x.1 (nI kk))) 0 = nI p
    rw [upd_at, if_neg (by decide), upd_at, if_neg (by decide)]
    exact ep
  · rw [q_of_at w1 i4 (by rw [i3]; rfl) (by rw [i3]; rfl), i3]
    rfl
  · rw [q_of_at w1 i4 (by rw [i3]; rfl) (by rw [i3]; rfl), i3]
    rfl
theorem aBlk_ok {P k a : Int32} {a0 h kk aa : Nat} (hh : h < 256) (ha : a0 < 1000000) (hk : k = nI kk) (hkk : kk < 100) (hq : a = nI aa) (haa : aa < 10) : ∀ (d part f : Nat) (x : aR × Int32), part + d ≤ 1000 → f ≤ h + 1 → aCnt x.1 + bCn h f d ≤ 32 → wfA x.1 (a0 + 1) → ordA x.1 → (∀ s, aoc x.1 s = true → x.1 s 0 = nI a0 → x.1 s 4 = k ∧ x.1 s 5 = a) → nC (pRule x.1 (nI a0)) 32 = part → wfA (aBlk P k a (nI a0) h d part f x).1 (a0 + 1) ∧ ordA (aBlk P k a (nI a0) h d part f x).1 ∧ aCnt (aBlk P k a (nI a0) h d part f x).1 = aCnt x.1 + bCn h f d ∧ nC (pRule (aBlk P k a (nI a0) h d part f x).1 (nI a0)) 32 = part + bCn h f d
  | 0, part, f, x, _, _, _, w, o, _, hp => ⟨w, o, rfl, hp⟩
  | d + 1, part, f, x, hd, hf, hc, w, o, hs, hp => by
    simp only [aBlk, bCn] at hc ⊢
    rcases Nat.lt_or_ge h f with q | q
    · rw [if_pos q, if_pos q]
      exact ⟨w, o, rfl, hp⟩
    · rw [if_neg (by omega)] at hc
      rw [if_neg (by omega), if_neg (by omega)]
      have hbl := bS_le f h
      have hfit := bS_fit (f := f) (h := h) (by omega)
      have hlt : aCnt x.1 < 32 := by omega
      have hrn : rowOf (nI a0) (nI part) (nI (256 - bS f h)) (nI f) k a 0 ≠ -1 := nI_m1 (by omega)
      have hcn := aCnt_add P k hlt hrn
      have w2 : wfA (aAdd x.1 P k (rowOf (nI a0) (nI part) (nI (256 - bS f h)) (nI f) k a)) (a0 + 1) := by
        refine w.ins P k hlt (r := a0) (by omega) (by omega) rfl rfl (m := 256 - bS f h) (v := f) (by omega) (by omega) rfl ?_ (bS_and2 (by omega) hh) (fun s hs z => ?_) ?_
        · exact bS_and (by omega) hh
        · have z0 : x.1 s 0 = nI a0 := z.1
          have z1 : x.1 s 1 = nI part := z.2
          have e := o.2.1 s hs
          rw [z0, z1] at e
          have hl := nC_lt (P := pRule x.1 (nI a0)) (w.lt hs) (pRule_iff.mpr ⟨hs, z0⟩)
          have := (nI_eq (by omega) (by omega)).mp e
          omega
        · rcases Nat.eq_zero_or_pos part with z | z
          · subst z
            exact Or.inl rfl
          · obtain ⟨t, t1, t2, t3⟩ := nC_ex (P := pRule x.1 (nI a0)) (n := 32) (p := 0) (by omega)
            obtain ⟨g1, g2⟩ := pRule_iff.mp t2
            have e := o.2.1 t g1
            rw [g2, t3] at e
            exact Or.inr ⟨t, g1, g2, e⟩
      obtain ⟨i1, i2, i3, i4, i5⟩ := o.ins w P k (row := rowOf (nI a0) (nI part) (nI (256 - bS f h)) (nI f) k a) hlt hrn rfl (fun s hs => by
        show x.1 s 0 ≤ nI a0
        obtain ⟨r, r1, r2⟩ := (w.2.2.2.1 s hs).1
        rw [r2]
        exact (nI_leI (by omega) (by omega)).mpr (by omega)) (fun s hs' e => hs s hs' e) (by
        show nI part = nI (nC (pRule x.1 (nI a0)) 32)
        rw [hp]) ⟨kk, hkk, hk⟩ ⟨aa, haa, hq⟩
      have i2 : nC (pRule (aAdd x.1 P k (rowOf (nI a0) (nI part) (nI (256 - bS f h)) (nI f) k a)) (nI a0)) 32 = nC (pRule x.1 (nI a0)) 32 + 1 := i2
      generalize hA2 : aAdd x.1 P k (rowOf (nI a0) (nI part) (nI (256 - bS f h)) (nI f) k a) = A2 at *
      have ih := aBlk_ok (P := P) (k := k) (a := a) hh ha hk hkk hq haa d (part + 1) (f + bS f h) (A2, x.2 + nI (oM x.1 k)) (by omega) (by omega) (by show aCnt A2 + _ ≤ 32; omega) w2 i1 (fun s hs' z => ?_) (by show nC (pRule A2 (nI a0)) 32 = _; omega)
      · obtain ⟨j1, j2, j3, j4⟩ := ih
        refine ⟨j1, j2, ?_, ?_⟩
        · rw [j3]
          show aCnt A2 + _ = _
          omega
        · rw [j4]
          omega
      · have hs' : aoc A2 s = true := hs'
        have z : A2 s 0 = nI a0 := z
        show A2 s 4 = k ∧ A2 s 5 = a
        rcases i5 s hs' with e | ⟨u, u1, u2⟩
        · rw [e, i3]
          exact ⟨rfl, rfl⟩
        · rw [u2] at z ⊢
          exact hs u u1 z
theorem wg_blkS {x : aSt} {B : Nat} (g : Wg x B) (hB : B < 1000000) {f h kk aa : Nat} (hf : f ≤ h) (hh : h < 256) (hc : aCnt x.1 + bCn h f 14 ≤ 32) (hk : kk < 100) (ha : aa < 10) : Wg (blkS x f h (nI kk) (nI aa)) (B + 1) ∧ aCnt (blkS x f h (nI kk) (nI aa)).1 = aCnt x.1 + bCn h f 14 ∧ nC (pRule (blkS x f h (nI kk) (nI aa)).1 (x.2 1)) 32 = bCn h f 14 := by
  obtain ⟨⟨a0, l0, e0, w⟩, o, p, hp, ep⟩ := g
  have c0 : nC (pRule x.1 (nI a0)) 32 = 0 := no_rule w (by omega) (fun n hn e => by
    have := (nI_eq (by omega) (by omega)).mp e
    omega)
  obtain ⟨j1, j2, j3, j4⟩ := aBlk_ok (P := x.2 0) (k := nI kk) (a := nI aa) (a0 := a0) hh (by omega) rfl hk rfl ha 14 0 f (x.1, x.2 2) (by omega) (by omega) hc (w.up (Nat.le_succ a0)) o (fun s hs z => by
    have := nC_0.mp c0 s (w.lt hs)
    rw [pRule_iff.mpr ⟨hs, z⟩] at this
    cases this) c0
  unfold blkS
  rw [e0]
  refine ⟨⟨⟨a0 + 1, by omega, ?_, j1⟩, j2, p, hp, ?_⟩, j3, by rw [j4]; omega⟩
  · dsimp only
    rw [upd_at, if_neg (by decide), upd_at, if_pos rfl, nI_add]
  · dsimp only
    rw [upd_at, if_neg (by decide), upd_at, if_neg (by decide)]
    exact ep
theorem wg_drop {x : aSt} {B : Nat} (g : Wg x B) (r : Int32) : Wg (aDrop x.1 r, x.2) B := by
  obtain ⟨⟨a0, l0, e0, w⟩, o, p⟩ := g
  exact ⟨⟨a0, l0, e0, w.drop r⟩, o.drop r, p⟩
theorem wg_place {x : aSt} {B : Nat} (g : Wg x B) {p : Nat} (hp : p < 3) : Wg (x.1, upd x.2 0 (nI p)) B := by
  obtain ⟨⟨a0, l0, e0, w⟩, o, -⟩ := g
  refine ⟨⟨a0, l0, ?_, w⟩, o, p, hp, ?_⟩
  · dsimp only
    rw [upd_at, if_neg (by decide)]
    exact e0
  · dsimp only
    rw [upd_at, if_pos rfl]
theorem wg_sp {x : aSt} {B n : Nat} (g : Wg x B) (hn : n ≤ 32) (hc : aCnt x.1 ≤ n) (y : Int32) : Wg (aSp x.1 n, upd x.2 2 y) B := by
  obtain ⟨⟨a0, l0, e0, w⟩, o, p, hp, ep⟩ := g
  refine ⟨⟨a0, l0, ?_, w.sp hn hc⟩, o.sp w hn, p, hp, ?_⟩
  · dsimp only
    rw [upd_at, if_neg (by decide)]
    exact e0
  · dsimp only
    rw [upd_at, if_neg (by decide)]
    exact ep
theorem wg_ht {x : aSt} {B : Nat} (g : Wg x B) {r : Int32} (hr : r ≠ -1) (y z : Int32) : Wg (aHt x.1 r, upd (upd x.2 3 y) 4 z) B := by
  obtain ⟨⟨a0, l0, e0, w⟩, o, p, hp, ep⟩ := g
  refine ⟨⟨a0, l0, ?_, w.ht hr⟩, o.ht r, p, hp, ?_⟩
  · dsimp only
    rw [upd_at, if_neg (by decide), upd_at, if_neg (by decide)]
    exact e0
  · dsimp only
    rw [upd_at, if_neg (by decide), upd_at, if_neg (by decide)]
    exact ep
