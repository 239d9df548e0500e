/-! ===== keys by slots ===== -/
/-- how many of the first n keys find one of the first i slots -/
def sK (A : aR) (n : Nat) : Nat → Nat
  | 0 => 0
  | i + 1 => sK A n i + aKs A (nI i) n
theorem aFd_le (A : aR) (x : Int32) : aFd A x ≤ 32 := by
  have := (nF_le (P := pKey A x) 32 0).2
  unfold aFd
  omega
theorem aN_eq {f i : Nat} (hf : f ≤ 32) (hi : i < 32) : (aN f == nI i) = decide (f = i) := by
  unfold aN
  by_cases h : f < 32
  · rw [if_pos h]
    by_cases e : f = i
    · subst e; simp
    · have : ¬ nI f = nI i := fun z => e ((nI_eq (by omega) (by omega)).mp z)
      simp [e, this]
  · rw [if_neg h]
    have e : ¬ f = i := by omega
    have : ¬ (-1 : Int32) = nI i := fun z => nI_m1 (by omega) z.symm
    simp [e, this]
theorem sK_s (A : aR) (n : Nat) : ∀ i, i ≤ 32 → sK A (n + 1) i = sK A n i + if aFd A (nI n) < i then 1 else 0
  | 0, _ => rfl
  | i + 1, hi => by
    have ih := sK_s A n i (by omega)
    have e : aKs A (nI i) (n + 1) = aKs A (nI i) n + if aFd A (nI n) = i then 1 else 0 := by
      unfold aKs
      simp only [nC]
      congr 1
      have h1 := aN_eq (aFd_le A (nI n)) (show i < 32 by omega)
      by_cases z : aFd A (nI n) = i
      · rw [if_pos z, if_pos (h1.trans (decide_eq_true z))]
      · rw [if_neg z, if_neg (by rw [h1, decide_eq_false z]; decide)]
    simp only [sK]
    rw [ih, e]
    split <;> split <;> split <;> omega
theorem sK_all (A : aR) : ∀ n, sK A n 32 + aKs A (-1) n = n
  | 0 => by
    have : ∀ i, sK A 0 i = 0 := fun i => by
      induction i with
      | zero => rfl
      | succ i ih => simp only [sK, ih]; rfl
    rw [this]
    rfl
  | n + 1 => by
    have ih := sK_all A n
    have e : aKs A (-1) (n + 1) = aKs A (-1) n + if aFd A (nI n) < 32 then 0 else 1 := by
      unfold aKs
      simp only [nC]
      by_cases z : aFd A (nI n) < 32
      · have : ¬ aN (aFd A (nI n)) = -1 := by
          unfold aN
          rw [if_pos z]
          exact nI_m1 (by omega)
        simp [z, this]
      · have : aN (aFd A (nI n)) = -1 := by
          unfold aN
          rw [if_neg z]
        simp [z, this]
    rw [sK_s A n 32 (Nat.le_refl _), e]
    split <;> omega
/-! ===== the power of a search ===== -/
theorem aPw_le (A : aR) (k : Int32) : ∀ b, aPw A k b ≤ nC (aoc A) (b * 8)
  | 0 => Nat.zero_le _
  | b + 1 => by
    have ih := aPw_le A k b
    rw [aCnt_s]
    simp only [aPw]
    split <;> omega
theorem aPw_mono {A : aR} {k : Int32} {b c : Nat} (h : b ≤ c) : aPw A k b ≤ aPw A k c := by
  induction c with
  | zero => obtain rfl : b = 0 := (by omega); exact Nat.le_refl _
  | succ c ih =>
    rcases Nat.lt_or_ge c b with z | z
    · obtain rfl : b = c + 1 := (by omega)
      exact Nat.le_refl _
    · have := ih z
      simp only [aPw]
      split <;> omega
theorem m1_bit {i : Nat} (h : i < 32) : (-1 : Int32).toBitVec.getLsbD i = true := by
  have : (-1 : Int32).toBitVec = BitVec.allOnes 32 := by decide
  rw [this, BitVec.getLsbD_allOnes]
  exact decide_eq_true h
theorem fil_bits (k m M v : Int32) : k &&& (m &&& (M &&& (((k &&& M) ^^^ v) ^^^ (-1)))) = v &&& (m &&& (M &&& (((k &&& M) ^^^ v) ^^^ (-1)))) := by
  apply Int32.toBitVec_inj.mp
  apply BitVec.eq_of_getLsbD_eq
  intro i hi
  simp only [Int32.toBitVec_and, Int32.toBitVec_xor, BitVec.getLsbD_and, BitVec.getLsbD_xor, m1_bit hi]
  cases k.toBitVec.getLsbD i <;> cases m.toBitVec.getLsbD i <;> cases M.toBitVec.getLsbD i <;> cases v.toBitVec.getLsbD i <;> rfl
theorem aCM_in {A : aR} {b f i : Nat} (ho : aoc A (b * 8 + i) = true) : ∀ j, i < j → ∃ m, aCM A b f j = m &&& (A (b * 8 + i) 2 &&& ((A (b * 8 + i) 3 ^^^ A f 3) ^^^ (-1)))
  | 0, h => by omega
  | j + 1, h => by
    rcases Nat.lt_or_ge i j with z | z
    · obtain ⟨m, hm⟩ := aCM_in (f := f) ho j z
      simp only [aCM]
      split
      · rw [hm]
        refine ⟨m &&& (A (b * 8 + j) 2 &&& ((A (b * 8 + j) 3 ^^^ A f 3) ^^^ (-1))), ?_⟩
        have e : ∀ a b c : Int32, (a &&& b) &&& c = (a &&& c) &&& b := fun a b c => by rw [Int32.and_assoc, Int32.and_comm b c, ← Int32.and_assoc]
        exact e _ _ _
      · exact ⟨m, hm⟩
    · obtain rfl : i = j := by omega
      refine ⟨aCM A b f i, ?_⟩
      simp only [aCM]
      rw [if_pos ho]
theorem aFE_in {A : aR} {b i : Nat} (hi : i < 8) (ho : aoc A (b * 8 + i) = true) : aFE A b < 8 := by
  have h2 := (nF_le (P := fun i => aoc A (b * 8 + i)) 8 0).2
  rcases Nat.lt_or_ge (aFE A b) 8 with z | z
  · exact z
  · have := nF_no (P := fun i => aoc A (b * 8 + i)) 8 0 i (Nat.zero_le _) (by unfold aFE at z; omega)
    rw [ho] at this
    cases this
theorem fil_of {A : aR} {b i : Nat} (hi : i < 8) {k : Int32} (ho : aoc A (b * 8 + i) = true) (hk : k &&& A (b * 8 + i) 2 = A (b * 8 + i) 3) : (k &&& aFM A b) = aFV A b := by
  have hf := aFE_in hi ho
  unfold aFV aFM
  rw [if_pos hf, if_pos hf]
  obtain ⟨m, hm⟩ := aCM_in (f := b * 8 + aFE A b) ho 8 hi
  rw [hm, ← hk]
  exact fil_bits _ _ _ _
theorem aPw_pos {A : aR} {k : Int32} (h : aFd A k < 32) : 0 < aPw A k 4 := by
  have h1 := nF_yes (P := pKey A k) 32 0 (by show aFd A k < 0 + 32; omega)
  have h1 : pKey A k (aFd A k) = true := h1
  simp only [pKey, Bool.and_eq_true, beq_iff_eq] at h1
  obtain ⟨b, i, hb, hi, e⟩ : ∃ b i, b < 4 ∧ i < 8 ∧ aFd A k = b * 8 + i := ⟨aFd A k / 8, aFd A k % 8, by omega, by omega, by omega⟩
  rw [e] at h1
  have h2 := fil_of hi h1.1 h1.2
  have h3 : 0 < aBank A b := by
    have := nC_lt (P := fun i => aoc A (b * 8 + i)) hi h1.1
    unfold aBank
    omega
  have h4 := aPw_mono (A := A) (k := k) (b := b + 1) (c := 4) (by omega)
  have h5 : aPw A k (b + 1) = aPw A k b + aBank A b := if_pos h2
  omega
theorem aPw_cnt (A : aR) (k : Int32) : aPw A k 4 ≤ aCnt A := aPw_le A k 4
/-! ===== moves ===== -/
theorem oM_lt {A : aR} {a : Nat} (w : wfA A a) (h : aCnt A < 32) (r : Int32) : oM A r < 32 := by
  unfold oM
  split
  · omega
  · have h1 := aP_le A r
    have h3 := oM_free h h1 (b := aB A r) (by omega)
    have u3 := aMu_33 A (aB A r)
    have d3 := aMd_33 A h1
    by_cases q : aMu A (aB A r) = 33
    · have := (aMd_le (A := A) h1 (fun z => h3 ⟨q, z⟩)).1
      have := Nat.min_le_right (aMu A (aB A r)) (aMd A (aP A r))
      omega
    · have := (aMu_le q).1
      have := Nat.min_le_left (aMu A (aB A r)) (aMd A (aP A r))
      omega
/-! ===== compacting and spreading ===== -/
theorem nC_imp {P Q : Nat → Bool} {n : Nat} (h : ∀ i, i < n → P i = true → Q i = true) : nC P n ≤ nC Q n := nC_rel (R := fun i j => i = j) (fun _ _ _ a b => a.trans b.symm) (fun i hi hp => ⟨i, hi, h i hi hp, rfl⟩)
theorem nC_spo {A : aR} {n : Nat} (hge : ∀ s, 32 ≤ s → aoc A s = false) (hn : n ≤ 32) {p : Nat} (hp : p < aCnt A) : nC (aoc (aSp A n)) (aTg n p) = p := by
  have hlt : ∀ u, aoc A u = true → u < 32 := fun u hu => by
    rcases Nat.lt_or_ge u 32 with z | z
    · exact z
    · rw [hge u z] at hu; cases hu
  obtain ⟨kp, hk⟩ : ∃ kp, kth A p = kp := ⟨_, rfl⟩
  have hkp : nC (aoc A) kp = p := by rw [← hk]; exact (kth_ok hp).2.2
  refine (nC_bij (P := aoc A) (m := kp) (fun u => aTg n (nC (aoc A) u)) (fun u hu hq => ?_) (fun u v hu hv hpu hpv e => ?_) (fun s hs hq => ?_)).symm.trans hkp
  · have hc := kth_nC (hlt u hq) hq
    have lt := nC_lt (P := aoc A) hu hq
    rw [hkp] at lt
    exact ⟨aTg_lt2 hn lt, aSp_oc hn hc⟩
  · have e2 := aTg_inj hn e
    rw [← kth_at (hlt u hpu) hpu, ← kth_at (hlt v hpv) hpv, e2]
  · obtain ⟨c, c1, c2, c3⟩ := aSp_at hn hq
    obtain ⟨k1, k2, k3⟩ := kth_ok c1
    refine ⟨kth A c, ?_, k2, by rw [k3]; exact c2⟩
    rw [← hk]
    rcases Nat.lt_trichotomy c p with z | z | z
    · exact kth_lt hp z
    · subst z; omega
    · have := aTg_lt2 hn z; omega
theorem aSp_out {A : aR} {n : Nat} (hge : ∀ s, 32 ≤ s → aoc A s = false) (hn : n ≤ 32) : nC (pOut (aSp A n) n) 32 = 0 := nC_0.mpr (fun s _ => by
  cases e : pOut (aSp A n) n s with
  | false => rfl
  | true =>
    exfalso
    simp only [pOut, Bool.and_eq_true, Bool.not_eq_true', beq_eq_false_iff_ne] at e
    obtain ⟨p, p1, p2, p3⟩ := aSp_at hn e.1
    refine e.2 ?_
    rw [← p2, nC_spo hge hn p1])
theorem aSp_cnt {A : aR} {n : Nat} (hge : ∀ s, 32 ≤ s → aoc A s = false) (hn : n ≤ 32) (hc : aCnt A ≤ n) : aCnt (aSp A n) = aCnt A := by
  have hlt : ∀ u, aoc A u = true → u < 32 := fun u hu => by
    rcases Nat.lt_or_ge u 32 with z | z
    · exact z
    · rw [hge u z] at hu; cases hu
  refine (nC_bij (P := aoc A) (Q := aoc (aSp A n)) (fun u => aTg n (nC (aoc A) u)) (fun u hu hq => ?_) (fun u v hu hv hpu hpv e => ?_) (fun s hs hq => ?_)).symm
  · have hk := kth_nC hu hq
    exact ⟨aTg_lt (Or.inl (by omega)), aSp_oc hn hk⟩
  · have e2 := aTg_inj hn e
    rw [← kth_at hu hpu, ← kth_at hv hpv, e2]
  · obtain ⟨c, c1, c2, c3⟩ := aSp_at hn hq
    obtain ⟨k1, k2, k3⟩ := kth_ok c1
    exact ⟨kth A c, k1, k2, by rw [k3]; exact c2⟩
/-- where none is out of its place -/
theorem out_none {A : aR} {n : Nat} (h : nC (pOut A n) 32 = 0) {p : Nat} (hp : p < aCnt A) : aoc A (aTg n p) = true := by
  obtain ⟨k1, k2, k3⟩ := kth_ok hp
  have e := nC_0.mp h _ k1
  unfold pOut at e
  rw [k2, k3] at e
  simp at e
  rw [← e]
  exact k2
theorem out_le (A : aR) (n : Nat) : nC (pOut A n) 32 ≤ aCnt A := nC_imp (fun i _ h => by
  simp only [pOut, Bool.and_eq_true] at h
  exact h.1)
/-! ===== what is seen of a state, as one number ===== -/
def sD (x : aSt) : aO := (x, none, [], (0, fun _ => -1))
def sv1 (x : aSt) : Nat → Int64
  | 0 => 97
  | w + 1 => 31 * sv1 x w + (q_total (sD x) (nI w)).toInt64
def svR (A : aR) (i : Nat) : Int32 := if q_in A 0 (nI i) < 0 then nI 0 else 100000 * q_of A 5 (q_in A 0 (nI i)) + nI 1000 * q_of A 4 (q_in A 0 (nI i)) + q_of A 6 (q_in A 0 (nI i))
def sv2 (x : aSt) : Nat → Int64
  | 0 => sv1 x 9
  | i + 1 => 31 * (31 * (31 * (31 * sv2 x i + (q_in x.1 0 (nI i)).toInt64) + (q_in x.1 2 (nI i)).toInt64) + (q_in x.1 3 (nI i)).toInt64) + (svR x.1 i).toInt64
def sv (x : aSt) : Int64 := sv2 x 32
theorem q_total_D (s : aO) : ∀ w, w < 9 → q_total s (nI w) = q_total (sD s.1) (nI w) := by
  intro w hw
  obtain rfl | rfl | rfl | rfl | rfl | rfl | rfl | rfl | rfl : w = 0 ∨ w = 1 ∨ w = 2 ∨ w = 3 ∨ w = 4 ∨ w = 5 ∨ w = 6 ∨ w = 7 ∨ w = 8 := by omega
  all_goals rfl
