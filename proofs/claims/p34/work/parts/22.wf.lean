/-! ===== what holds of a memory at all times (began as whole's 31, 33, 34) ===== -/
/-- the ranks stand in their order -/
def srt (A : aR) : Prop := ∀ s t, s < t → aoc A s = true → aoc A t = true → A s 4 ≤ A t 4
theorem srt_pb {A : aR} (h : srt A) (hge : ∀ s, 32 ≤ s → aoc A s = false) (r : Int32) : aP A r ≤ aB A r := by
  rcases Nat.lt_or_ge (aB A r) (aP A r) with q | q
  · exfalso
    have hp := aP_le A r
    obtain ⟨j, hj⟩ : ∃ j, aP A r = j + 1 := ⟨aP A r - 1, by omega⟩
    have h1 := nL_yes (P := pUp A r) (n := 32) hj
    have h2 := nF_yes (P := pBy A r) 32 0 (by show aB A r < 0 + 32; omega)
    simp only [pUp, pBy, Bool.and_eq_true, decide_eq_true_eq] at h1 h2
    have h2 : aoc A (aB A r) = true ∧ r < A (aB A r) 4 := h2
    rcases Nat.lt_trichotomy (aB A r) j with z | z | z
    · have := h (aB A r) j z h2.1 h1.1
      exact Int32.lt_irrefl (Int32.lt_of_lt_of_le h2.2 (Int32.le_trans this h1.2))
    · rw [z] at h2
      exact Int32.lt_irrefl (Int32.lt_of_lt_of_le h2.2 h1.2)
    · omega
  · exact q
/-! ===== blocks: at most 14 ===== -/
theorem bsz_spec (f h : Nat) : ∀ d i, (i = 0 ∨ (f % 2 ^ i = 0 ∧ f + 2 ^ i - 1 ≤ h)) → ∃ j, i ≤ j ∧ j ≤ i + d ∧ bsz f h (2 ^ i) d = 2 ^ j ∧ (j = 0 ∨ (f % 2 ^ j = 0 ∧ f + 2 ^ j - 1 ≤ h)) ∧ (j = i + d ∨ ¬ (f % 2 ^ (j + 1) = 0 ∧ f + 2 ^ (j + 1) - 1 ≤ h))
  | 0, i, h0 => ⟨i, Nat.le_refl _, Nat.le_refl _, rfl, h0, Or.inl rfl⟩
  | d + 1, i, h0 => by
    have e : 2 * 2 ^ i = 2 ^ (i + 1) := by rw [Nat.pow_succ, Nat.mul_comm]
    simp only [bsz, e]
    split
    · rename_i q
      obtain ⟨j, j1, j2, j3, j4, j5⟩ := bsz_spec f h d (i + 1) (Or.inr q)
      refine ⟨j, by omega, by omega, j3, j4, ?_⟩
      rcases j5 with z | z
      · exact Or.inl (by omega)
      · exact Or.inr z
    · rename_i q
      exact ⟨i, Nat.le_refl _, by omega, rfl, h0, Or.inr q⟩
theorem bS_spec {f h : Nat} (hf : f ≤ h) : ∃ j, j ≤ 8 ∧ bS f h = 2 ^ j ∧ f % 2 ^ j = 0 ∧ f + 2 ^ j ≤ h + 1 ∧ (j = 8 ∨ ¬ (f % 2 ^ (j + 1) = 0 ∧ f + 2 ^ (j + 1) - 1 ≤ h)) := by
  obtain ⟨j, -, j2, j3, j4, j5⟩ := bsz_spec f h 8 0 (Or.inl rfl)
  have hp : 0 < 2 ^ j := Nat.pow_pos (by decide)
  refine ⟨j, by omega, j3, ?_, ?_, ?_⟩
  · rcases j4 with rfl | z
    · exact Nat.mod_one _
    · exact z.1
  · rcases j4 with rfl | z
    · omega
    · omega
  · rcases j5 with z | z
    · exact Or.inl (by omega)
    · exact Or.inr z
/-- where the keys go on behind d blocks -/
def bPos (h : Nat) : Nat → Nat → Nat
  | f, 0 => f
  | f, d + 1 => if h < f then f else bPos h (f + bS f h) d
theorem bPos_stop {h f : Nat} (q : h < f) : ∀ d, bPos h f d = f
  | 0 => rfl
  | d + 1 => by simp only [bPos]; rw [if_pos q]
theorem bPos_more {h : Nat} : ∀ {d f : Nat}, h < bPos h f d → h < bPos h f (d + 1)
  | 0, f, q => by
    have q : h < f := q
    rw [bPos_stop q]
    exact q
  | d + 1, f, q => by
    rcases Nat.lt_or_ge h f with z | z
    · rw [bPos_stop z]
      exact z
    · have e : ∀ k, bPos h f (k + 1) = bPos h (f + bS f h) k := fun k => by simp only [bPos]; rw [if_neg (by omega)]
      rw [e] at q ⊢
      exact bPos_more q
theorem bPos_mono {h f d e : Nat} (hde : d ≤ e) (q : h < bPos h f d) : h < bPos h f e := by
  induction e with
  | zero => obtain rfl : d = 0 := (by omega); exact q
  | succ e ih =>
    rcases Nat.lt_or_ge e d with z | z
    · obtain rfl : d = e + 1 := (by omega)
      exact q
    · exact bPos_more (ih z)
theorem pow_mod {f i j : Nat} (hij : i ≤ j) (h : f % 2 ^ j = 0) : f % 2 ^ i = 0 := Nat.mod_eq_zero_of_dvd (Nat.dvd_trans (Nat.pow_dvd_pow 2 hij) (Nat.dvd_of_mod_eq_zero h))
/-- the block's size, where it is told by f's zeros or by the room -/
theorem bS_is {f h k : Nat} (hf : f ≤ h) (hk : k ≤ 8) (h1 : f % 2 ^ k = 0) (h2 : f + 2 ^ k ≤ h + 1) (h3 : f % 2 ^ (k + 1) ≠ 0 ∨ h + 1 < f + 2 ^ (k + 1)) : bS f h = 2 ^ k := by
  obtain ⟨j, j1, j2, j3, j4, j5⟩ := bS_spec hf
  rcases Nat.lt_trichotomy j k with z | z | z
  · exfalso
    have p : 2 ^ (j + 1) ≤ 2 ^ k := Nat.pow_le_pow_right (by decide) z
    rcases j5 with y | y
    · omega
    · exact y ⟨pow_mod z h1, by omega⟩
  · rw [j2, z]
  · exfalso
    have p : 2 ^ (k + 1) ≤ 2 ^ j := Nat.pow_le_pow_right (by decide) z
    rcases h3 with y | y
    · exact y (pow_mod z j3)
    · omega
theorem bPos_dn : ∀ k, k ≤ 8 → ∀ f h, f % 2 ^ k = 0 → f ≤ h + 1 → h + 1 < f + 2 ^ k → h < bPos h f k
  | 0, _, f, h, _, h2, h3 => by
    show h < f
    have : 2 ^ 0 = 1 := rfl
    omega
  | k + 1, hk, f, h, h1, h2, h3 => by
    rcases Nat.lt_or_ge h f with z | z
    · rw [bPos_stop z]
      exact z
    · rcases Nat.lt_or_ge (h + 1) (f + 2 ^ k) with y | y
      · exact bPos_more (bPos_dn k (by omega) f h (pow_mod (by omega) h1) h2 y)
      · have e := bS_is z (by omega : k ≤ 8) (pow_mod (by omega) h1) y (Or.inr h3)
        simp only [bPos]
        rw [if_neg (by omega), e]
        have p : 2 ^ (k + 1) = 2 ^ k + 2 ^ k := by rw [Nat.pow_succ]; omega
        refine bPos_dn k (by omega) _ h ?_ (by omega) (by omega)
        rw [Nat.add_mod_right]
        exact pow_mod (by omega) h1
theorem bPos_up : ∀ i, i ≤ 8 → ∀ f h, 0 < f → f % 2 ^ (8 - i) = 0 → h < 256 → f ≤ h + 1 → h < bPos h f (if i = 0 then 0 else 6 + i)
  | 0, _, f, h, h0, h1, h2, h3 => by
    show h < f
    have : f % 256 = 0 := h1
    omega
  | i + 1, hi, f, h, h0, h1, h2, h3 => by
    have ej : 8 - i = 8 - (i + 1) + 1 := by omega
    have ih := bPos_up i (by omega)
    rw [ej] at ih
    generalize hj : 8 - (i + 1) = j at *
    rw [if_neg (by omega)]
    by_cases q : f % 2 ^ (j + 1) = 0
    · exact bPos_mono (by split <;> omega) (ih f h h0 q h2 h3)
    · rcases Nat.lt_or_ge h f with z | z
      · rw [bPos_stop z]
        exact z
      · rcases Nat.lt_or_ge (h + 1) (f + 2 ^ j) with y | y
        · exact bPos_mono (by omega) (bPos_dn j (by omega) f h h1 h3 y)
        · have e := bS_is z (by omega : j ≤ 8) h1 y (Or.inl q)
          rw [show 6 + (i + 1) = (6 + i) + 1 by omega]
          simp only [bPos]
          rw [if_neg (by omega), e]
          refine bPos_mono (by split <;> omega) (ih (f + 2 ^ j) h (by omega) ?_ h2 y)
          have p : 2 ^ (j + 1) = 2 ^ j * 2 := Nat.pow_succ ..
          rw [p] at q ⊢
          obtain ⟨c, hc⟩ := Nat.dvd_of_mod_eq_zero h1
          subst hc
          rw [Nat.mul_mod_mul_left] at q
          rw [show 2 ^ j * c + 2 ^ j = 2 ^ j * (c + 1) by rw [Nat.mul_add, Nat.mul_one], Nat.mul_mod_mul_left]
          have : (c + 1) % 2 = 0 := by
            have : c % 2 ≠ 0 := fun w => q (by rw [w]; rfl)
            omega
          rw [this]
          rfl
theorem bPos_14 {f h : Nat} (h2 : h < 256) (h3 : f ≤ h + 1) : h < bPos h f 14 := by
  rcases Nat.eq_zero_or_pos f with rfl | q
  · rcases Nat.lt_or_ge (h + 1) 256 with z | z
    · exact bPos_mono (by decide) (bPos_dn 8 (by decide) 0 h rfl h3 (by omega))
    · obtain rfl : h = 255 := by omega
      decide
  · have := bPos_up 8 (by decide) f h q (by rw [show 8 - 8 = 0 from rfl]; exact Nat.mod_one _) h2 h3
    exact this
theorem and_hi : ∀ k, k < 9 → ∀ f, f < 256 → f % 2 ^ k = 0 → f &&& (256 - 2 ^ k) = f := by decide +kernel
theorem bS_and {f h : Nat} (hf : f ≤ h) (hh : h < 256) : nI f &&& nI (256 - bS f h) = nI f := by
  obtain ⟨j, j1, j2, j3, j4, -⟩ := bS_spec hf
  rw [nI_and (by omega) (by omega), j2, and_hi j (by omega) f (by omega) j3]
theorem bS_and2 {f h : Nat} (hf : f ≤ h) (hh : h < 256) : f &&& (256 - bS f h) = f := by
  obtain ⟨j, j1, j2, j3, j4, -⟩ := bS_spec hf
  rw [j2, and_hi j (by omega) f (by omega) j3]
/-! ===== what holds of a memory at all times ===== -/
def wfA (A : aR) (a : Nat) : Prop := srt A ∧ (∀ s, 32 ≤ s → A s = eR) ∧ (∀ s, aoc A s = false → A s = eR) ∧ (∀ s, aoc A s = true → (∃ r, r < a ∧ A s 0 = nI r) ∧ (∃ m v, m < 256 ∧ v < 256 ∧ A s 2 = nI m ∧ A s 3 = nI v ∧ v &&& m = v) ∧ ∃ t, aoc A t = true ∧ A t 0 = A s 0 ∧ A t 1 = 0) ∧ ∀ s t, aoc A s = true → aoc A t = true → A s 0 = A t 0 → A s 1 = A t 1 → s = t
def Wf (x : aSt) (B : Nat) : Prop := ∃ a, a ≤ B ∧ x.2 1 = nI a ∧ wfA x.1 a
theorem wfA.up {A : aR} {a b : Nat} (h : wfA A a) (hab : a ≤ b) : wfA A b := ⟨h.1, h.2.1, h.2.2.1, fun s hs => by
  obtain ⟨⟨r, r1, r2⟩, x⟩ := h.2.2.2.1 s hs
  exact ⟨⟨r, by omega, r2⟩, x⟩, h.2.2.2.2⟩
theorem Wf.up {x : aSt} {B C : Nat} (h : Wf x B) (hBC : B ≤ C) : Wf x C := by
  obtain ⟨a, a1, a2⟩ := h
  exact ⟨a, by omega, a2⟩
theorem wfA.ge {A : aR} {a : Nat} (h : wfA A a) : ∀ s, 32 ≤ s → aoc A s = false := fun s hs => aoc_eR (h.2.1 s hs)
theorem wfA.lt {A : aR} {a s : Nat} (h : wfA A a) (hs : aoc A s = true) : s < 32 := by
  rcases Nat.lt_or_ge s 32 with q | q
  · exact q
  · rw [h.ge s q] at hs
    cases hs
/-- where the rows come from when one is added -/
theorem aAdd_src {A : aR} (P r : Int32) (row : Nat → Int32) (h : aCnt A < 32) (hpb : aP A r ≤ aB A r) : ∃ src : Nat → Nat, (∀ s, s ≠ oS A P r → aAdd A P r row s = A (src s)) ∧ (∀ s s', s < s' → s ≠ oS A P r → s' ≠ oS A P r → src s < src s') ∧ (∀ s, s < oS A P r → aoc A (src s) = true → A (src s) 4 ≤ r) ∧ (∀ s, oS A P r < s → aoc A (src s) = true → src s < 32 → r < A (src s) 4) ∧ (∀ s, 32 ≤ s → src s = s) ∧ ∀ u, aoc A u = true → u < 32 → ∃ s, s < 32 ∧ s ≠ oS A P r ∧ src s = u := by
  have h1 := aP_le A r
  have h2 := aB_le A r
  have lo : ∀ u, u < aB A r → aoc A u = true → A u 4 ≤ r := fun u hu ho => by
    have := nF_no (P := pBy A r) 32 0 u (by omega) hu
    unfold pBy at this
    rw [ho] at this
    simp at this
    exact this
  have hi : ∀ u, aP A r ≤ u → u < 32 → aoc A u = true → r < A u 4 := fun u hu hl ho => by
    have := nL_no (P := pUp A r) hu hl
    unfold pUp at this
    rw [ho] at this
    simp at this
    exact this
  rcases Nat.lt_or_ge (aP A r) (aB A r) with q | q
  · have hs := aPl_lt (P := P) h2 q
    have e : oS A P r = aPl P (aP A r) (aB A r) := by unfold oS; rw [if_pos q]
    have e2 : oA A r = A := by unfold oA; rw [if_pos q]
    rw [e]
    refine ⟨fun s => s, fun s z => by unfold aAdd; rw [e, if_neg z, e2], fun s s' z _ _ => z, fun s z ho => lo s (by omega) ho, fun s z ho hl => hi s (by omega) hl ho, fun s _ => rfl, fun u ho hl => ⟨u, hl, ?_, rfl⟩⟩
    intro z
    have := aGap (A := A) (r := r) (s := u) (by omega) (by omega)
    rw [ho] at this
    cases this
  · have nq : ¬ aP A r < aB A r := by omega
    have h3 := oM_free h h1 q
    have u3 := aMu_33 A (aB A r)
    have d3 := aMd_33 A h1
    by_cases q2 : aMu A (aB A r) ≤ aMd A (aP A r)
    · obtain ⟨a1, a2, a3⟩ := aMu_le (A := A) (f := aB A r) (by omega)
      have e : oS A P r = aB A r := by unfold oS; rw [if_neg nq, if_pos q2]
      have e2 : oA A r = aUp A (aB A r) (aMu A (aB A r)) 0 := by unfold oA; rw [if_neg nq, if_pos q2]
      generalize aMu A (aB A r) = n at *
      rw [e]
      refine ⟨fun s => if aB A r < s ∧ s ≤ aB A r + n then s - 1 else s, fun s z => ?_, fun s s' z z1 z2 => ?_, fun s z ho => ?_, fun s z ho hl => ?_, fun s z => ?_, fun u ho hl => ?_⟩
      · unfold aAdd
        rw [e, if_neg z, e2]
        unfold aUp
        dsimp only
        by_cases y : aB A r < s ∧ s ≤ aB A r + n
        · rw [if_pos (by omega), if_pos y]
        · rw [if_neg (by omega), if_neg (by omega), if_neg y]
      · dsimp only
        split <;> split <;> omega
      · dsimp only at ho ⊢
        rw [if_neg (by omega)] at ho ⊢
        exact lo s z ho
      · dsimp only at ho hl ⊢
        refine hi _ ?_ hl ho
        split <;> omega
      · dsimp only
        rw [if_neg (by omega)]
      · rcases Nat.lt_or_ge u (aB A r) with y | y
        · exact ⟨u, hl, by omega, if_neg (by omega)⟩
        · rcases Nat.lt_or_ge u (aB A r + n) with w | w
          · exact ⟨u + 1, by omega, by omega, by dsimp only; rw [if_pos (by omega)]; omega⟩
          · have : u ≠ aB A r + n := by rintro rfl; rw [a2] at ho; cases ho
            exact ⟨u, hl, by omega, if_neg (by omega)⟩
    · obtain ⟨a1, a2, a3⟩ := aMd_le (A := A) h1 (by omega)
      have e : oS A P r = aP A r - 1 := by unfold oS; rw [if_neg nq, if_neg q2]
      have e2 : oA A r = aDn A (aP A r - 1) (aMd A (aP A r)) (aMd A (aP A r)) := by unfold oA; rw [if_neg nq, if_neg q2]
      generalize aMd A (aP A r) = n at *
      rw [e]
      refine ⟨fun s => if aP A r - 1 - n ≤ s ∧ s < aP A r - 1 then s + 1 else s, fun s z => ?_, fun s s' z z1 z2 => ?_, fun s z ho => ?_, fun s z ho hl => ?_, fun s z => ?_, fun u ho hl => ?_⟩
      · unfold aAdd
        rw [e, if_neg z, e2]
        unfold aDn
        dsimp only
        by_cases y : aP A r - 1 - n ≤ s ∧ s < aP A r - 1
        · rw [if_pos (by omega), if_pos y]
        · rw [if_neg (by omega), if_neg (by omega), if_neg y]
      · dsimp only
        split <;> split <;> omega
      · dsimp only at ho ⊢
        refine lo _ ?_ ho
        split <;> omega
      · dsimp only at ho hl ⊢
        rw [if_neg (by omega)] at ho hl ⊢
        exact hi s (by omega) hl ho
      · dsimp only
        rw [if_neg (by omega)]
      · rcases Nat.lt_or_ge u (aP A r) with y | y
        · rcases Nat.lt_or_ge (aP A r - 1 - n) u with w | w
          · exact ⟨u - 1, by omega, by omega, by dsimp only; rw [if_pos (by omega)]; omega⟩
          · have : u ≠ aP A r - 1 - n := by rintro rfl; rw [a2] at ho; cases ho
            exact ⟨u, hl, by omega, if_neg (by omega)⟩
        · exact ⟨u, hl, by omega, if_neg (by omega)⟩
theorem wfA.ins {A : aR} {a : Nat} (w : wfA A a) (P k : Int32) {row : Nat → Int32} (h : aCnt A < 32) {r : Nat} (hr : r < a) (ha : a < 2 ^ 31) (h0 : row 0 = nI r) (h4 : row 4 = k) {m v : Nat} (hm : m < 256) (hv : v < 256) (h2 : row 2 = nI m) (h3 : row 3 = nI v) (hvm : v &&& m = v) (hnew : ∀ s, aoc A s = true → ¬ (A s 0 = row 0 ∧ A s 1 = row 1)) (hz : row 1 = 0 ∨ ∃ t, aoc A t = true ∧ A t 0 = row 0 ∧ A t 1 = 0) : wfA (aAdd A P k row) a := by
  obtain ⟨src, c1, c2, c3, c4, c5, c6⟩ := aAdd_src P k row h (srt_pb w.1 w.ge k)
  have hlt := oS_lt P k h
  have hrow : aAdd A P k row (oS A P k) = row := by unfold aAdd; rw [if_pos rfl]
  have orow : aoc (aAdd A P k row) (oS A P k) = true := by
    unfold aoc
    rw [hrow, h0]
    simpa using nI_m1 (n := r) (by omega)
  have osrc : ∀ s, s ≠ oS A P k → aoc (aAdd A P k row) s = aoc A (src s) := fun s z => by unfold aoc; rw [c1 s z]
  generalize hB : aAdd A P k row = B at *
  generalize oS A P k = t at *
  refine ⟨fun s s' z o1 o2 => ?_, fun s z => ?_, fun s o => ?_, fun s o => ?_, fun s s' o1 o2 e0 e1 => ?_⟩
  · by_cases y1 : s = t
    · subst y1
      have y2 : s' ≠ s := by omega
      rw [osrc s' y2] at o2
      rw [hrow, c1 s' y2, h4]
      exact Int32.le_of_lt (c4 s' z o2 (w.lt o2))
    · rw [osrc s y1] at o1
      by_cases y2 : s' = t
      · subst y2
        rw [hrow, c1 s y1, h4]
        exact c3 s z o1
      · rw [osrc s' y2] at o2
        rw [c1 s y1, c1 s' y2]
        exact w.1 _ _ (c2 s s' z y1 y2) o1 o2
  · rw [c1 s (by omega), c5 s z]
    exact w.2.1 s z
  · have y : s ≠ t := by rintro rfl; rw [orow] at o; cases o
    rw [osrc s y] at o
    rw [c1 s y]
    exact w.2.2.1 _ o
  · by_cases y : s = t
    · subst y
      rw [hrow]
      refine ⟨⟨r, hr, h0⟩, ⟨m, v, hm, hv, h2, h3, hvm⟩, ?_⟩
      rcases hz with z | ⟨u, u1, u2, u3⟩
      · exact ⟨s, orow, by rw [hrow], by rw [hrow]; exact z⟩
      · obtain ⟨s2, -, n2, e2⟩ := c6 u u1 (w.lt u1)
        exact ⟨s2, by rw [osrc s2 n2, e2]; exact u1, by rw [c1 s2 n2, e2]; exact u2, by rw [c1 s2 n2, e2]; exact u3⟩
    · rw [osrc s y] at o
      rw [c1 s y]
      obtain ⟨x1, x2, u, u1, u2, u3⟩ := w.2.2.2.1 _ o
      obtain ⟨s2, -, n2, e2⟩ := c6 u u1 (w.lt u1)
      exact ⟨x1, x2, s2, by rw [osrc s2 n2, e2]; exact u1, by rw [c1 s2 n2, e2]; exact u2, by rw [c1 s2 n2, e2]; exact u3⟩
  · by_cases y1 : s = t
    · subst y1
      by_cases y2 : s' = s
      · exact y2.symm
      · rw [osrc s' y2] at o2
        rw [hrow, c1 s' y2] at e0 e1
        exact absurd ⟨e0.symm, e1.symm⟩ (hnew _ o2)
    · rw [osrc s y1] at o1
      by_cases y2 : s' = t
      · subst y2
        rw [hrow, c1 s y1] at e0 e1
        exact absurd ⟨e0, e1⟩ (hnew _ o1)
      · rw [osrc s' y2] at o2
        rw [c1 s y1, c1 s' y2] at e0 e1
        have := w.2.2.2.2 _ _ o1 o2 e0 e1
        rcases Nat.lt_trichotomy s s' with z | z | z
        · have := c2 s s' z y1 y2
          omega
        · exact z
        · have := c2 s' s z y2 y1
          omega
