/-! ===== Integer.bitCount counts the bits ===== -/
theorem nI_and {a b : Nat} (ha : a < 2 ^ 32) (hb : b < 2 ^ 32) : nI a &&& nI b = nI (a &&& b) := by
  apply Int32.toBitVec_inj.mp
  apply BitVec.eq_of_toNat_eq
  rw [Int32.toBitVec_and, BitVec.toNat_and, pk_tn ha, pk_tn hb, pk_tn (Nat.lt_of_le_of_lt Nat.and_le_left ha)]
theorem nI_or {a b : Nat} (ha : a < 2 ^ 32) (hb : b < 2 ^ 32) : nI a ||| nI b = nI (a ||| b) := by
  apply Int32.toBitVec_inj.mp
  apply BitVec.eq_of_toNat_eq
  rw [Int32.toBitVec_or, BitVec.toNat_or, pk_tn ha, pk_tn hb, pk_tn (Nat.or_lt_two_pow ha hb)]
theorem us_n {n : Nat} (h : n < 2 ^ 32) : us (nI n) 1 = nI (n / 2) ∧ us (nI n) 2 = nI (n / 4) ∧ us (nI n) 4 = nI (n / 16) ∧ us (nI n) 8 = nI (n / 256) ∧ us (nI n) 16 = nI (n / 65536) := by
  refine ⟨pk_ushrN h (nI 1) 1 (by decide), pk_ushrN h (nI 2) 2 (by decide), pk_ushrN h (nI 4) 4 (by decide), pk_ushrN h (nI 8) 8 (by decide), pk_ushrN h (nI 16) 16 (by decide)⟩
theorem and_split (X M : Nat) : X &&& M = ((X % 256) &&& (M % 256)) + 256 * ((X / 256) &&& (M / 256)) := by
  have h1 : (X &&& M) % 256 = (X % 256) &&& (M % 256) := Nat.and_mod_two_pow (n := 8)
  have h2 : (X &&& M) / 256 = (X / 256) &&& (M / 256) := Nat.and_div_two_pow (n := 8)
  rw [← h1, ← h2]
  omega
def b1 (y : Nat) : Nat := y - (y / 2 &&& 0x55)
def b2 (y : Nat) : Nat := (y &&& 0x33) + (y / 4 &&& 0x33)
def b3 (y : Nat) : Nat := (y + y / 16) % 16
theorem by1 : ∀ y, y < 256 → ∀ c, c < 2 → (y / 2 + 128 * c) &&& 0x55 = y / 2 &&& 0x55 := by decide +kernel
theorem by2 : ∀ y, y < 256 → ∀ c, c < 4 → (y / 4 + 64 * c) &&& 0x33 = y / 4 &&& 0x33 := by decide +kernel
theorem by3 : ∀ y, y < 256 → (y / 2 &&& 0x55) ≤ y ∧ b1 y < 256 ∧ b2 (b1 y) ≤ 68 ∧ b2 (b1 y) % 16 ≤ 4 ∧ b3 (b2 (b1 y)) ≤ 8 ∧ b3 (b2 (b1 y)) = nC (fun i => y.testBit i) 8 := by decide +kernel
theorem sh1 {y z M : Nat} (hy : y < 256) (hM : M % 256 = 0x55) : (y + 256 * z) / 2 &&& M = (y / 2 &&& 0x55) + 256 * (z / 2 &&& (M / 256)) := by
  rw [and_split, hM]
  have e1 : (y + 256 * z) / 2 % 256 = y / 2 + 128 * (z % 2) := by omega
  have e2 : (y + 256 * z) / 2 / 256 = z / 2 := by omega
  rw [e1, e2, by1 y hy _ (by omega)]
theorem sh2 {y z M : Nat} (hy : y < 256) (hM : M % 256 = 0x33) : (y + 256 * z) / 4 &&& M = (y / 4 &&& 0x33) + 256 * (z / 4 &&& (M / 256)) := by
  rw [and_split, hM]
  have e1 : (y + 256 * z) / 4 % 256 = y / 4 + 64 * (z % 4) := by omega
  have e2 : (y + 256 * z) / 4 / 256 = z / 4 := by omega
  rw [e1, e2, by2 y hy _ (by omega)]
theorem sh0 {y z M : Nat} (hy : y < 256) (hM : M % 256 = 0x33) : (y + 256 * z) &&& M = (y &&& 0x33) + 256 * (z &&& (M / 256)) := by
  rw [and_split, hM]
  have e1 : (y + 256 * z) % 256 = y := by omega
  have e2 : (y + 256 * z) / 256 = z := by omega
  rw [e1, e2]
theorem shf {y z M : Nat} (hM : M % 256 = 15) : (y + 256 * z) &&& M = (y % 16) + 256 * ((y / 256 + z) &&& (M / 256)) := by
  rw [and_split, hM]
  have e1 : (y + 256 * z) % 256 = y % 256 := by omega
  have e2 : (y + 256 * z) / 256 = y / 256 + z := by omega
  have e3 : y % 256 &&& 15 = y % 16 := by
    have := Nat.and_two_pow_sub_one_eq_mod (y % 256) 4
    rw [show (15 : Nat) = 2 ^ 4 - 1 from rfl, this]
    omega
  rw [e1, e2, e3]
/-- all in numbers -/
def bcN (x : Nat) : Nat :=
  let a := x - (x / 2 &&& 1431655765)
  let b := (a &&& 858993459) + (a / 4 &&& 858993459)
  let c := (b + b / 16) &&& 252645135
  let d := c + c / 256
  let e := d + d / 65536
  e % 64
theorem bc_last {w0 w1 w2 w3 : Nat} (h0 : w0 ≤ 8) (h1 : w1 ≤ 8) (h2 : w2 ≤ 8) (h3 : w3 ≤ 8) : (w0 + 256 * (w1 + 256 * (w2 + 256 * w3)) + (w0 + 256 * (w1 + 256 * (w2 + 256 * w3))) / 256 + (w0 + 256 * (w1 + 256 * (w2 + 256 * w3)) + (w0 + 256 * (w1 + 256 * (w2 + 256 * w3))) / 256) / 65536) % 64 = w0 + w1 + w2 + w3 := by
  have d1 : (w0 + 256 * (w1 + 256 * (w2 + 256 * w3))) / 256 = w1 + 256 * (w2 + 256 * w3) := by omega
  rw [d1]
  have d2 : (w0 + 256 * (w1 + 256 * (w2 + 256 * w3)) + (w1 + 256 * (w2 + 256 * w3))) / 65536 = w2 + w3 + 256 * w3 := by omega
  rw [d2]
  omega
theorem bcN_bytes {y0 y1 y2 y3 : Nat} (h0 : y0 < 256) (h1 : y1 < 256) (h2 : y2 < 256) (h3 : y3 < 256) : bcN (y0 + 256 * (y1 + 256 * (y2 + 256 * y3))) = nC (fun i => y0.testBit i) 8 + nC (fun i => y1.testBit i) 8 + nC (fun i => y2.testBit i) 8 + nC (fun i => y3.testBit i) 8 := by
  obtain ⟨p0, q0, r0, s0, t0, u0⟩ := by3 y0 h0
  obtain ⟨p1, q1, r1, s1, t1, u1⟩ := by3 y1 h1
  obtain ⟨p2, q2, r2, s2, t2, u2⟩ := by3 y2 h2
  obtain ⟨p3, q3, r3, s3, t3, u3⟩ := by3 y3 h3
  have a1 : (y0 + 256 * (y1 + 256 * (y2 + 256 * y3))) - ((y0 + 256 * (y1 + 256 * (y2 + 256 * y3))) / 2 &&& 1431655765) = b1 y0 + 256 * (b1 y1 + 256 * (b1 y2 + 256 * b1 y3)) := by
    rw [sh1 h0 (by decide), sh1 h1 (by decide), sh1 h2 (by decide)]
    show _ - ((y0 / 2 &&& 0x55) + 256 * ((y1 / 2 &&& 0x55) + 256 * ((y2 / 2 &&& 0x55) + 256 * (y3 / 2 &&& 0x55)))) = _
    unfold b1
    omega
  have a2 : (b1 y0 + 256 * (b1 y1 + 256 * (b1 y2 + 256 * b1 y3)) &&& 858993459) + ((b1 y0 + 256 * (b1 y1 + 256 * (b1 y2 + 256 * b1 y3))) / 4 &&& 858993459) = b2 (b1 y0) + 256 * (b2 (b1 y1) + 256 * (b2 (b1 y2) + 256 * b2 (b1 y3))) := by
    rw [sh2 q0 (by decide), sh2 q1 (by decide), sh2 q2 (by decide), sh0 q0 (by decide), sh0 q1 (by decide), sh0 q2 (by decide)]
    show ((b1 y0 &&& 0x33) + 256 * ((b1 y1 &&& 0x33) + 256 * ((b1 y2 &&& 0x33) + 256 * (b1 y3 &&& 0x33)))) + ((b1 y0 / 4 &&& 0x33) + 256 * ((b1 y1 / 4 &&& 0x33) + 256 * ((b1 y2 / 4 &&& 0x33) + 256 * (b1 y3 / 4 &&& 0x33)))) = _
    unfold b2
    omega
  unfold bcN
  simp only [a1, a2]
  rw [← u0, ← u1, ← u2, ← u3]
  generalize b2 (b1 y0) = z0 at *
  generalize b2 (b1 y1) = z1 at *
  generalize b2 (b1 y2) = z2 at *
  generalize b2 (b1 y3) = z3 at *
  have a3 : ((z0 + 256 * (z1 + 256 * (z2 + 256 * z3))) + (z0 + 256 * (z1 + 256 * (z2 + 256 * z3))) / 16 &&& 252645135) = b3 z0 + 256 * (b3 z1 + 256 * (b3 z2 + 256 * b3 z3)) := by
    have e : (z0 + 256 * (z1 + 256 * (z2 + 256 * z3))) + (z0 + 256 * (z1 + 256 * (z2 + 256 * z3))) / 16 = (z0 + z0 / 16 + 16 * (z1 % 16)) + 256 * ((z1 + z1 / 16 + 16 * (z2 % 16)) + 256 * ((z2 + z2 / 16 + 16 * (z3 % 16)) + 256 * (z3 + z3 / 16))) := by omega
    rw [e, shf (by decide)]
    rw [show (z0 + z0 / 16 + 16 * (z1 % 16)) / 256 = 0 by omega, Nat.zero_add, shf (by decide)]
    rw [show (z1 + z1 / 16 + 16 * (z2 % 16)) / 256 = 0 by omega, Nat.zero_add, shf (by decide)]
    rw [show (z2 + z2 / 16 + 16 * (z3 % 16)) / 256 = 0 by omega, Nat.zero_add]
    have e4 : z3 + z3 / 16 &&& 252645135 / 256 / 256 / 256 = (z3 + z3 / 16) % 16 := Nat.and_two_pow_sub_one_eq_mod _ 4
    rw [e4, Nat.add_mul_mod_self_left, Nat.add_mul_mod_self_left, Nat.add_mul_mod_self_left]
    rfl
  rw [a3]
  generalize b3 z0 = w0 at *
  generalize b3 z1 = w1 at *
  generalize b3 z2 = w2 at *
  generalize b3 z3 = w3 at *
  exact bc_last t0 t1 t2 t3
theorem bcN_nC {n : Nat} (h : n < 2 ^ 32) : bcN n = nC (fun i => n.testBit i) 32 := by
  have e : n = n % 256 + 256 * (n / 256 % 256 + 256 * (n / 65536 % 256 + 256 * (n / 16777216))) := by omega
  have h1 : nC (fun i => n.testBit i) 32 = nC (fun i => (n % 256).testBit i) 8 + nC (fun i => (n / 256 % 256).testBit i) 8 + nC (fun i => (n / 65536 % 256).testBit i) 8 + nC (fun i => (n / 16777216).testBit i) 8 := by
    have t : ∀ m : Nat, nC (fun i => (m % 256).testBit i) 8 = nC (fun i => m.testBit i) 8 := fun m => nC_congr (fun i hi => by
      rw [show 256 = 2 ^ 8 from rfl, Nat.testBit_mod_two_pow]
      simp [hi])
    rw [show 32 = 8 + (8 + (8 + 8)) from rfl, nC_add, nC_add, nC_add, t, t, t]
    have d1 : ∀ i, (n / 256).testBit i = n.testBit (8 + i) := fun i => by rw [show 256 = 2 ^ 8 from rfl, Nat.testBit_div_two_pow]; congr 1; omega
    have d2 : ∀ i, (n / 65536).testBit i = n.testBit (8 + (8 + i)) := fun i => by rw [show 65536 = 2 ^ 16 from rfl, Nat.testBit_div_two_pow]; congr 1; omega
    have d3 : ∀ i, (n / 16777216).testBit i = n.testBit (8 + (8 + (8 + i))) := fun i => by rw [show 16777216 = 2 ^ 24 from rfl, Nat.testBit_div_two_pow]; congr 1; omega
    simp only [d1, d2, d3]
    omega
  rw [h1, ← bcN_bytes (by omega) (by omega) (by omega) (by omega), ← e]
theorem bc_mid {n : Nat} (h : n < 2 ^ 32) : (n / 2 &&& 1431655765) ≤ n ∧ n - (n / 2 &&& 1431655765) < 2 ^ 32 := by
  have : (n / 2 &&& 1431655765) ≤ n / 2 := Nat.and_le_left
  omega
theorem bcI_n {n : Nat} (h : n < 2 ^ 32) : bcI (nI n) = nI (bcN n) := by
  unfold bcI bcN
  obtain ⟨m1, m2⟩ := bc_mid h
  have c1 : (1431655765 : Int32) = nI 1431655765 := by decide
  have c2 : (858993459 : Int32) = nI 858993459 := by decide
  have c3 : (252645135 : Int32) = nI 252645135 := by decide
  simp only [(us_n h).1, c1, c2, c3]
  rw [nI_and (by omega) (by decide), pk_sub m1]
  generalize n - (n / 2 &&& 1431655765) = a at *
  rw [(us_n m2).2.1, nI_and m2 (by decide), nI_and (by omega) (by decide), nI_add]
  have l1 : (a &&& 858993459) ≤ 858993459 := Nat.and_le_right
  have l2 : (a / 4 &&& 858993459) ≤ 858993459 := Nat.and_le_right
  have hb : (a &&& 858993459) + (a / 4 &&& 858993459) ≤ 1717986918 := by omega
  generalize (a &&& 858993459) + (a / 4 &&& 858993459) = b at *
  rw [(us_n (by omega)).2.2.1, nI_add, nI_and (by omega) (by decide)]
  have l3 : (b + b / 16 &&& 252645135) ≤ 252645135 := Nat.and_le_right
  generalize (b + b / 16 &&& 252645135) = c at *
  rw [(us_n (by omega)).2.2.2.1, nI_add, (us_n (by omega)).2.2.2.2, nI_add, nI_and (by omega) (by decide)]
  congr 1
  exact Nat.and_two_pow_sub_one_eq_mod _ 6
/-! ===== the entries that no key finds ===== -/
def nFB (A : aR) : Nat → Nat
  | 0 => 0
  | k + 1 => if aFd A (nI k) < 32 then nFB A k ||| 2 ^ aFd A (nI k) else nFB A k
theorem bit_sh : ∀ f, f < 32 → nI 1 <<< (nI f &&& 31) = nI (2 ^ f) := by decide +kernel
theorem nFB_lt (A : aR) : ∀ k, nFB A k < 2 ^ 32
  | 0 => by show 0 < 2 ^ 32; decide
  | k + 1 => by
    simp only [nFB]
    split
    · rename_i q
      exact Nat.or_lt_two_pow (nFB_lt A k) (Nat.pow_lt_pow_right (by decide) q)
    · exact nFB_lt A k
theorem aFB_n (A : aR) : ∀ k, aFB A k = nI (nFB A k)
  | 0 => rfl
  | k + 1 => by
    simp only [aFB, nFB]
    split
    · rename_i q
      rw [aFB_n A k, bit_sh _ q, nI_or (nFB_lt A k) (Nat.pow_lt_pow_right (by decide) q)]
    · exact aFB_n A k
theorem nFB_bit (A : aR) {s : Nat} (hs : s < 32) : ∀ k, (nFB A k).testBit s = !(aKs A (nI s) k == 0)
  | 0 => by simp [nFB, aKs, nC]
  | k + 1 => by
    have ih := nFB_bit A hs k
    have e : aKs A (nI s) (k + 1) = aKs A (nI s) k + (if aN (aFd A (nI k)) == nI s then 1 else 0) := rfl
    rw [e]
    simp only [nFB]
    split
    · rename_i q
      rw [Nat.testBit_or, ih, aN_lt q, Nat.testBit_two_pow]
      by_cases z : aFd A (nI k) = s
      · simp [z]
      · have : ¬ nI (aFd A (nI k)) = nI s := fun y => z ((nI_eq (by omega) (by omega)).mp y)
        simp [z, this]
    · rename_i q
      rw [ih, aN_ge q]
      have : ¬ (-1 : Int32) = nI s := fun y => nI_m1 (n := s) (by omega) y.symm
      simp [this]
theorem nC_part {P Q : Nat → Bool} : ∀ n, nC P n = nC (fun i => P i && Q i) n + nC (fun i => P i && !Q i) n
  | 0 => rfl
  | n + 1 => by
    have := nC_part (P := P) (Q := Q) n
    simp only [nC, this]
    rcases Bool.eq_false_or_eq_true (P n) with h1 | h1 <;> rcases Bool.eq_false_or_eq_true (Q n) with h2 | h2 <;> simp [h1, h2] <;> omega
theorem aKs_oc {A : aR} {s : Nat} (hs : s < 32) (h : (aKs A (nI s) 256 == 0) = false) : aoc A s = true := by
  cases e : aoc A s with
  | true => rfl
  | false =>
    have h0 : aKs A (nI s) 256 = 0 := nC_0.mpr (fun i _ => by
      cases z : (aN (aFd A (nI i)) == nI s) with
      | false => rfl
      | true =>
        have z2 := beq_iff_eq.mp z
        by_cases q : aFd A (nI i) < 32
        · rw [aN_lt q] at z2
          have z3 := (nI_eq (by omega) (by omega)).mp z2
          have := aFd_oc q
          rw [z3, e] at this
          cases this
        · rw [aN_ge q] at z2
          exact absurd z2.symm (nI_m1 (by omega)))
    rw [h0] at h
    cases h
theorem never_eq (A : aR) : nI (aCnt A) - bcI (aFB A 256) = nI (aNever A) := by
  rw [aFB_n, bcI_n (nFB_lt A 256), bcN_nC (nFB_lt A 256)]
  have e1 : nC (fun i => (nFB A 256).testBit i) 32 = nC (fun s => aoc A s && !(aKs A (nI s) 256 == 0)) 32 := nC_congr (fun s hs => by
    rw [nFB_bit A hs]
    cases z : (aKs A (nI s) 256 == 0) with
    | true => simp
    | false => rw [aKs_oc hs z]; rfl)
  have e2 := nC_part (P := aoc A) (Q := fun s => aKs A (nI s) 256 == 0) 32
  have e3 : aCnt A = aNever A + nC (fun s => aoc A s && !(aKs A (nI s) 256 == 0)) 32 := e2
  rw [e1, pk_sub (by omega)]
  congr 1
  omega
theorem kc_total (U : xP) (M : xM) {s : aO} (h : RC M s) (x : Int32) : xMetI U mX3_total [.inr 0, .inl x] M (quC M (q_total s x)) := by
  refine xMetI.of (ty := .int) (L := [some (.inr 0), some (.inl x)]) fX3_total rfl rfl (Nat.le_of_ble_eq_true rfl) (fun G hN hO hR => ?_)
  have hN : G.2.2.2.2.2.2.2.2.2.2.1 = 2 := hN
  have hO : xOK U G RX3 cX3_total 4 := hO
  obtain ⟨n, hn, h31, e1, e2⟩ := h.txt
  obtain ⟨o, c, h3, h4, h5, h6, h7⟩ := h.2.2.1
  refine x_iload_n hO dX3_total_0 rfl rfl ?_
  by_cases hx : 0 ≤ x.toInt ∧ x.toInt ≤ 10
  · obtain ⟨k, hk, rfl⟩ : ∃ k : Nat, k ≤ 10 ∧ x = nI k := by
      obtain ⟨k, hk, rfl⟩ := nI_of (x := x) (by rw [Int32.lt_iff_toInt_lt]; simp; omega)
      rw [nI_toInt hk] at hx
      exact ⟨k, by omega, rfl⟩
    have ht : (nI k).toInt = k := nI_toInt (by omega)
    obtain rfl | rfl | rfl | rfl | rfl | rfl | rfl | rfl | rfl | rfl | rfl : k = 0 ∨ k = 1 ∨ k = 2 ∨ k = 3 ∨ k = 4 ∨ k = 5 ∨ k = 6 ∨ k = 7 ∨ k = 8 ∨ k = 9 ∨ k = 10 := by omega
    · refine x_tableIn (tgt := 60) hO dX3_total_1 (by decide) (by decide) (show _ = some 59 by decide) (by decide) ?_
      refine x_aload_n hO dX3_total_60 rfl rfl ?_
      refine x_getR (T := TX3) (j := 0) hO dX3_total_61 flX3_10 (by decide) rfl rfl (by decide) rfl rfl ?_
      refine x_callV1 hO (k_entries U M) dX3_total_64 lkX3_85 fX1_entries vX1_entries (by decide) rfl rfl rfl rfl rfl (by decide) (Nat.le_of_ble_eq_true rfl) ?_
      rw [h.rows]
      refine x_iret hO hR dX3_total_67 rfl ?_
      exact ⟨rfl, rfl⟩
    · refine x_tableIn (tgt := 68) hO dX3_total_1 (by decide) (by decide) (show _ = some 67 by decide) (by decide) ?_
      refine x_aload_n hO dX3_total_68 rfl rfl ?_
      refine x_getR (T := TX3) (j := 0) hO dX3_total_69 flX3_10 (by decide) rfl rfl (by decide) rfl rfl ?_
      refine x_callV1 hO (k_rules U M) dX3_total_72 lkX3_183 fX1_rules vX1_rules (by decide) rfl rfl rfl rfl rfl (by decide) (Nat.le_of_ble_eq_true rfl) ?_
      rw [h.rows]
      refine x_iret hO hR dX3_total_75 rfl ?_
      exact ⟨rfl, rfl⟩
    · refine x_tableIn (tgt := 76) hO dX3_total_1 (by decide) (by decide) (show _ = some 75 by decide) (by decide) ?_
      refine x_aload_n hO dX3_total_76 rfl rfl ?_
      refine x_getR (T := TX3) (j := 0) hO dX3_total_77 flX3_10 (by decide) rfl rfl (by decide) rfl rfl ?_
      refine x_getNI (T := TX1) (j := 8) hO dX3_total_80 flX3_186 (by decide) rfl rfl (by decide) rfl rfl ?_
      rw [show M 16 8 = s.1.2 1 from h.num (j := 1) (by decide)]
      refine x_iret hO hR dX3_total_83 rfl ?_
      exact ⟨rfl, rfl⟩
    · refine x_tableIn (tgt := 84) hO dX3_total_1 (by decide) (by decide) (show _ = some 83 by decide) (by decide) ?_
      refine x_aload_n hO dX3_total_84 rfl rfl ?_
      refine x_getR (T := TX3) (j := 0) hO dX3_total_85 flX3_10 (by decide) rfl rfl (by decide) rfl rfl ?_
      refine x_getNI (T := TX1) (j := 7) hO dX3_total_88 flX3_78 (by decide) rfl rfl (by decide) rfl rfl ?_
      rw [show M 16 7 = s.1.2 0 from h.num (j := 0) (by decide)]
      refine x_iret hO hR dX3_total_91 rfl ?_
      exact ⟨rfl, rfl⟩
    · refine x_tableIn (tgt := 92) hO dX3_total_1 (by decide) (by decide) (show _ = some 91 by decide) (by decide) ?_
      refine x_aload_n hO dX3_total_92 rfl rfl ?_
      refine x_getR (T := TX3) (j := 0) hO dX3_total_93 flX3_10 (by decide) rfl rfl (by decide) rfl rfl ?_
      refine x_getNI (T := TX1) (j := 9) hO dX3_total_96 flX3_189 (by decide) rfl rfl (by decide) rfl rfl ?_
      rw [show M 16 9 = s.1.2 2 from h.num (j := 2) (by decide)]
      refine x_iret hO hR dX3_total_99 rfl ?_
      exact ⟨rfl, rfl⟩
    · refine x_tableIn (tgt := 100) hO dX3_total_1 (by decide) (by decide) (show _ = some 99 by decide) (by decide) ?_
      refine x_aload_n hO dX3_total_100 rfl rfl ?_
      refine x_getR (T := TX3) (j := 0) hO dX3_total_101 flX3_10 (by decide) rfl rfl (by decide) rfl rfl ?_
      refine x_getNI (T := TX1) (j := 10) hO dX3_total_104 flX3_192 (by decide) rfl rfl (by decide) rfl rfl ?_
      rw [show M 16 10 = s.1.2 3 from h.num (j := 3) (by decide)]
      refine x_iret hO hR dX3_total_107 rfl ?_
      exact ⟨rfl, rfl⟩
    · refine x_tableIn (tgt := 108) hO dX3_total_1 (by decide) (by decide) (show _ = some 107 by decide) (by decide) ?_
      refine x_aload_n hO dX3_total_108 rfl rfl ?_
      refine x_getR (T := TX3) (j := 0) hO dX3_total_109 flX3_10 (by decide) rfl rfl (by decide) rfl rfl ?_
      refine x_getNI (T := TX1) (j := 11) hO dX3_total_112 flX3_195 (by decide) rfl rfl (by decide) rfl rfl ?_
      rw [show M 16 11 = s.1.2 4 from h.num (j := 4) (by decide)]
      refine x_iret hO hR dX3_total_115 rfl ?_
      exact ⟨rfl, rfl⟩
    · refine x_tableIn (tgt := 116) hO dX3_total_1 (by decide) (by decide) (show _ = some 115 by decide) (by decide) ?_
      refine x_aload_n hO dX3_total_116 rfl rfl ?_
      refine x_getR (T := TX3) (j := 0) hO dX3_total_117 flX3_10 (by decide) rfl rfl (by decide) rfl rfl ?_
      refine x_callV1 hO (k_entriesNeverFound U M) dX3_total_120 lkX3_198 fX1_entriesNeverFound vX1_entriesNeverFound (by decide) rfl rfl rfl rfl rfl (by decide) (Nat.le_of_ble_eq_true rfl) ?_
      rw [h.rows, never_eq]
      refine x_iret hO hR dX3_total_123 rfl ?_
      exact ⟨rfl, rfl⟩
    · refine x_tableIn (tgt := 124) hO dX3_total_1 (by decide) (by decide) (show _ = some 123 by decide) (by decide) ?_
      refine x_aload_n hO dX3_total_124 rfl rfl ?_
      refine x_getR (T := TX3) (j := 0) hO dX3_total_125 flX3_10 (by decide) rfl rfl (by decide) rfl rfl ?_
      refine x_iconst (v := (-1 : Int32)) hO dX3_total_128 rfl ?_
      refine x_callV1 hO (k_keysFinding U M (-1)) dX3_total_129 lkX3_177 fX1_keysFinding vX1_keysFinding (by decide) rfl rfl rfl rfl rfl (by decide) (Nat.le_of_ble_eq_true rfl) ?_
      rw [h.rows]
      refine x_iret hO hR dX3_total_132 rfl ?_
      exact ⟨rfl, rfl⟩
    · refine x_tableIn (tgt := 133) hO dX3_total_1 (by decide) (by decide) (show _ = some 132 by decide) (by decide) ?_
      refine x_aload_n hO dX3_total_133 rfl rfl ?_
      refine x_getR (T := TX3) (j := 2) hO dX3_total_134 flX3_22 (by decide) rfl rfl (by decide) rfl rfl ?_
      refine x_getNI (T := TX0) (j := 2) hO dX3_total_137 flX3_128 (by decide) rfl rfl (by decide) rfl rfl ?_
      rw [h6]
      refine x_iret hO hR dX3_total_140 rfl ?_
      exact ⟨by show nI c = nI s.2.2.1.length; rw [h7]; simp, rfl⟩
    · refine x_tableIn (tgt := 141) hO dX3_total_1 (by decide) (by decide) (show _ = some 140 by decide) (by decide) ?_
      refine x_aload_n hO dX3_total_141 rfl rfl ?_
      refine x_getR (T := TX3) (j := 3) hO dX3_total_142 flX3_29 (by decide) rfl rfl (by decide) rfl rfl ?_
      refine x_getNI (T := TX2) (j := 1) hO dX3_total_145 flX3_107 (by decide) rfl rfl (by decide) rfl rfl ?_
      rw [h31]
      refine x_iret hO hR dX3_total_148 rfl ?_
      exact ⟨by show nI n = nI s.2.2.2.1; rw [e1], rfl⟩
  · have hbig : x.toInt < 0 ∨ 10 < x.toInt := by omega
    refine x_tableOut (tgt := 149) hO dX3_total_1 hbig (by decide) ?_
    refine x_bipush (v := (-2 : Int32)) hO dX3_total_149 rfl ?_
    refine x_iret hO hR dX3_total_151 rfl ?_
    refine ⟨?_, rfl⟩
    unfold q_total
    have ne : ∀ k : Nat, k ≤ 10 → x ≠ nI k := by
      rintro k hk rfl
      rw [nI_toInt (by omega)] at hbig
      omega
    rw [if_neg (ne 0 (by decide)), if_neg (ne 1 (by decide)), if_neg (ne 2 (by decide)), if_neg (ne 3 (by decide)), if_neg (ne 4 (by decide)), if_neg (ne 5 (by decide)), if_neg (ne 6 (by decide)), if_neg (ne 7 (by decide)), if_neg (ne 8 (by decide)), if_neg (ne 9 (by decide)), if_neg (ne 10 (by decide))]
