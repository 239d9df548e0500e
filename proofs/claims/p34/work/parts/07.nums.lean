/-! ===== numbers, and searches over them ===== -/
theorem xinc_n (i : Nat) : nI i + Int32.ofInt 1 = nI (i + 1) := nI_1 i
theorem xdec_n (i : Nat) : nI (i + 1) + Int32.ofInt (-1) = nI i := pk_m1 i
/-- one less than k, from -1 on -/
def xm : Nat → Int32
  | 0 => -1
  | k + 1 => nI k
theorem xm_s (k : Nat) : xm (k + 1) = nI k := rfl
theorem xm_dec (k : Nat) : nI k + Int32.ofInt (-1) = xm k := by
  cases k with
  | zero => rfl
  | succ k => exact pk_m1 k
theorem xm_lt0 {k : Nat} (h : k < 2 ^ 31) : xm k < 0 ↔ k = 0 := by
  cases k with
  | zero => exact ⟨fun _ => rfl, fun _ => by decide⟩
  | succ k => exact ⟨fun q => absurd q (nI_pos (by omega)), fun q => by omega⟩
theorem xm_toInt {k : Nat} (h : k ≤ 2 ^ 31) : (xm k).toInt = (k : Int) - 1 := by
  cases k with
  | zero => decide
  | succ k => rw [xm_s, nI_toInt (by omega)]; omega
theorem upd_ind {P : Nat → Nat → Prop} (n : Nat) (h0 : P n 0) (hs : ∀ i d, i + (d + 1) = n → P (i + 1) d → P i (d + 1)) : ∀ d i, i + d = n → P i d := by
  intro d
  induction d with
  | zero => intro i h; obtain rfl : i = n := (by omega); exact h0
  | succ d ih => intro i h; exact hs i d h (ih (i + 1) (by omega))
/-- how many are below n -/
def nC (P : Nat → Bool) : Nat → Nat
  | 0 => 0
  | n + 1 => nC P n + (if P n then 1 else 0)
theorem nC_le (P : Nat → Bool) : ∀ n, nC P n ≤ n
  | 0 => Nat.le_refl _
  | n + 1 => by
    have := nC_le P n
    simp only [nC]
    split <;> omega
theorem nC_t {P : Nat → Bool} {n : Nat} (h : P n = true) : nC P (n + 1) = nC P n + 1 := by simp [nC, h]
theorem nC_f {P : Nat → Bool} {n : Nat} (h : P n = false) : nC P (n + 1) = nC P n := by simp [nC, h]
theorem nC_congr {P Q : Nat → Bool} : ∀ {n : Nat}, (∀ i, i < n → P i = Q i) → nC P n = nC Q n
  | 0, _ => rfl
  | n + 1, h => by simp only [nC, h n (by omega), nC_congr (n := n) (fun i hi => h i (by omega))]
theorem nC_0 {P : Nat → Bool} : ∀ {n : Nat}, nC P n = 0 ↔ ∀ i, i < n → P i = false
  | 0 => ⟨fun _ i h => by omega, fun _ => rfl⟩
  | n + 1 => by
    have ih := nC_0 (P := P) (n := n)
    simp only [nC]
    constructor
    · intro h i hi
      rcases Nat.lt_or_ge i n with q | q
      · exact ih.mp (by omega) i q
      · obtain rfl : i = n := by omega
        cases e : P i with
        | false => rfl
        | true => rw [e] at h; simp at h
    · intro h
      rw [ih.mpr (fun i hi => h i (by omega)), h n (by omega)]
      rfl
/-- the first from i on, of d; i + d if there is none -/
def nF (P : Nat → Bool) : Nat → Nat → Nat
  | i, 0 => i
  | i, d + 1 => if P i then i else nF P (i + 1) d
theorem nF_t {P : Nat → Bool} {i d : Nat} (h : P i = true) : nF P i (d + 1) = i := by simp [nF, h]
theorem nF_f {P : Nat → Bool} {i d : Nat} (h : P i = false) : nF P i (d + 1) = nF P (i + 1) d := by simp [nF, h]
theorem nF_le {P : Nat → Bool} : ∀ (d i : Nat), i ≤ nF P i d ∧ nF P i d ≤ i + d
  | 0, i => ⟨Nat.le_refl _, Nat.le_refl _⟩
  | d + 1, i => by
    have := nF_le (P := P) d (i + 1)
    simp only [nF]
    split <;> omega
theorem nF_no {P : Nat → Bool} : ∀ (d i j : Nat), i ≤ j → j < nF P i d → P j = false
  | 0, i, j, h1, h2 => by simp only [nF] at h2; omega
  | d + 1, i, j, h1, h2 => by
    cases e : P i with
    | true => rw [nF_t e] at h2; omega
    | false =>
      rw [nF_f e] at h2
      rcases Nat.lt_or_ge i j with q | q
      · exact nF_no d (i + 1) j q h2
      · obtain rfl : i = j := by omega
        exact e
theorem nF_yes {P : Nat → Bool} : ∀ (d i : Nat), nF P i d < i + d → P (nF P i d) = true
  | 0, i, h => by simp only [nF] at h; omega
  | d + 1, i, h => by
    cases e : P i with
    | true => rw [nF_t e]; exact e
    | false =>
      rw [nF_f e] at h ⊢
      exact nF_yes d (i + 1) (by omega)
theorem nF_eq {P : Nat → Bool} {i d r : Nat} (h0 : i ≤ r) (h1 : r ≤ i + d) (h2 : ∀ j, i ≤ j → j < r → P j = false) (h3 : r < i + d → P r = true) : nF P i d = r := by
  have a := nF_le (P := P) d i
  rcases Nat.lt_trichotomy (nF P i d) r with q | q | q
  · have := nF_yes (P := P) d i (by omega)
    rw [h2 _ a.1 q] at this
    cases this
  · exact q
  · have := nF_no (P := P) d i r h0 q
    rw [h3 (by omega)] at this
    cases this
theorem nF_congr {P Q : Nat → Bool} : ∀ {d i : Nat}, (∀ j, i ≤ j → j < i + d → P j = Q j) → nF P i d = nF Q i d
  | 0, _, _ => rfl
  | d + 1, i, h => by simp only [nF, h i (by omega) (by omega), nF_congr (d := d) (i := i + 1) (fun j h1 h2 => h j (by omega) (by omega))]
/-- one more than the last below n; 0 if there is none -/
def nL (P : Nat → Bool) : Nat → Nat
  | 0 => 0
  | n + 1 => if P n then n + 1 else nL P n
theorem nL_t {P : Nat → Bool} {n : Nat} (h : P n = true) : nL P (n + 1) = n + 1 := by simp [nL, h]
theorem nL_f {P : Nat → Bool} {n : Nat} (h : P n = false) : nL P (n + 1) = nL P n := by simp [nL, h]
theorem nL_le {P : Nat → Bool} : ∀ n, nL P n ≤ n
  | 0 => Nat.le_refl _
  | n + 1 => by
    have := nL_le (P := P) n
    simp only [nL]
    split <;> omega
theorem nL_yes {P : Nat → Bool} : ∀ {n j : Nat}, nL P n = j + 1 → P j = true
  | 0, j, h => by simp [nL] at h
  | n + 1, j, h => by
    cases e : P n with
    | true => rw [nL_t e] at h; obtain rfl : n = j := (by omega); exact e
    | false => rw [nL_f e] at h; exact nL_yes h
theorem nL_no {P : Nat → Bool} : ∀ {n j : Nat}, nL P n ≤ j → j < n → P j = false
  | 0, j, _, h => by omega
  | n + 1, j, h1, h2 => by
    cases e : P n with
    | true => rw [nL_t e] at h1; omega
    | false =>
      rw [nL_f e] at h1
      rcases Nat.lt_or_ge j n with q | q
      · exact nL_no h1 q
      · obtain rfl : j = n := by omega
        exact e
theorem nL_congr {P Q : Nat → Bool} : ∀ {n : Nat}, (∀ i, i < n → P i = Q i) → nL P n = nL Q n
  | 0, _ => rfl
  | n + 1, h => by simp only [nL, h n (by omega), nL_congr (n := n) (fun i hi => h i (by omega))]
/-- a truth as the machine has it -/
def bI (b : Bool) : Int32 := if b then 1 else 0
theorem bI_0 {b : Bool} (h : bI b = 0) : b = false := by cases b <;> first | rfl | exact absurd h (by decide)
theorem bI_1 {b : Bool} (h : ¬ bI b = 0) : b = true := by cases b <;> first | rfl | exact absurd rfl h
theorem bI_nar (b : Bool) : narrow .boolean (.int (bI b)) = .int (bI b) := by cases b <;> rfl
theorem bI_t {b : Bool} (h : b = true) : (nI 1 : Int32) = bI b := by rw [h]; rfl
theorem bI_f {b : Bool} (h : b = false) : (nI 0 : Int32) = bI b := by rw [h]; rfl
/-- what isSlot, isKey and their like ask: a number from 0 to n - 1 -/
theorem xi_range {x : Int32} {n : Nat} (hn : n < 2 ^ 31) : (¬ x < 0 ∧ x < nI n) ↔ ∃ j : Nat, j < n ∧ x = nI j := by
  constructor
  · rintro ⟨h1, h2⟩
    obtain ⟨j, hj, rfl⟩ := nI_of h1
    exact ⟨j, (nI_ltI hj hn).mp h2, rfl⟩
  · rintro ⟨j, hj, rfl⟩
    exact ⟨nI_pos (by omega), (nI_ltI (by omega) hn).mpr hj⟩
/-- an index of 0 to n - 1 -/
def ixB (x : Int32) (n : Nat) : Bool := decide (¬ x < 0 ∧ x < nI n)
theorem ixB_n {j n : Nat} (h : j < n) (hn : n < 2 ^ 31) : ixB (nI j) n = true := decide_eq_true ((xi_range hn).mpr ⟨j, h, rfl⟩)
theorem ixB_e {x : Int32} {n : Nat} (hn : n < 2 ^ 31) (h : ixB x n = true) : ∃ j : Nat, j < n ∧ x = nI j := (xi_range hn).mp (of_decide_eq_true h)
theorem ixB_lo {x : Int32} {n : Nat} (h : x < 0) : ixB x n = false := decide_eq_false (fun q => q.1 h)
theorem ixB_hi {x : Int32} {n : Nat} (h : nI n ≤ x) : ixB x n = false := decide_eq_false (fun q => Int32.not_lt.mpr h q.2)
theorem ixB_in {x : Int32} {n : Nat} (h1 : ¬ x < 0) (h2 : ¬ nI n ≤ x) : ixB x n = true := decide_eq_true ⟨h1, Int32.not_le.mp h2⟩
/-! ===== what a memory holds: a row of seven numbers a slot (rule, part, mask, value, rank, action, hits); a free slot's rule is -1 ===== -/
/-- the slot s of the memory at the cell b holds an entry -/
def occ (M : xM) (b s : Nat) : Bool := decide (s < 32) && !(M (b + 1) s == -1)
def eR : Nat → Int32 := fun w => if w = 0 then -1 else 0
def cA (M : xM) (b : Nat) : Nat → Nat → Int32 := fun s w => if occ M b s then (if w < 6 then M (b + 1 + w) s else if w = 6 ∧ M (b + 2) s = 0 then M (b + 7) s else 0) else eR w
def aoc (A : Nat → Nat → Int32) (s : Nat) : Bool := !(A s 0 == -1)
theorem cA_oc (M : xM) (b s : Nat) : aoc (cA M b) s = occ M b s := by
  unfold aoc cA
  cases h : occ M b s with
  | false => rfl
  | true =>
    have h2 := h
    simp only [occ, Bool.and_eq_true] at h2
    simpa using h2.2
theorem cA_in {M : xM} {b s : Nat} (h : aoc (cA M b) s = true) {w : Nat} (hw : w < 6) : M (b + 1 + w) s = cA M b s w := by
  rw [cA_oc] at h
  simp [cA, h, hw]
theorem cA_lt {M : xM} {b s : Nat} (h : aoc (cA M b) s = true) : s < 32 := by
  rw [cA_oc] at h
  simp only [occ, Bool.and_eq_true, decide_eq_true_eq] at h
  exact h.1
theorem cA_out {M : xM} {b s : Nat} (h : 32 ≤ s) : aoc (cA M b) s = false := by
  rw [cA_oc]
  simp only [occ]
  rw [decide_eq_false (by omega)]
  rfl
theorem cA_hit {M : xM} {b s : Nat} (h : aoc (cA M b) s = true) (h0 : cA M b s 1 = 0) : M (b + 7) s = cA M b s 6 := by
  have h1 : M (b + 2) s = 0 := by rw [show b + 2 = b + 1 + 1 from rfl, cA_in h (by decide)]; exact h0
  rw [cA_oc] at h
  simp [cA, h, h1]
