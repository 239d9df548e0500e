/-! ===== the fresh world is the small machine's ===== -/
def adL (h0 p0 p1 p2 p3 q0 : Nat) (m : Nat → Nat) (a : Nat → Nat → Nat) (a0 a1 a3 : Nat → Nat) : List Nat := [h0, p2, q0, p3, a3 0, a3 1, a3 2, a3 3, a3 4, p0, a0 0, a0 1, a0 2, a0 3, a0 4, a0 5, a0 6, p1, a1 0, a1 1, a1 2, a1 3, a1 4, a1 5, a1 6, m 0, a 0 0, a 0 1, a 0 2, a 0 3, a 0 4, a 0 5, a 0 6, m 1, a 1 0, a 1 1, a 1 2, a 1 3, a 1 4, a 1 5, a 1 6, m 2, a 2 0, a 2 1, a 2 2, a 2 3, a 2 4, a 2 5, a 2 6, m 3, a 3 0, a 3 1, a 3 2, a 3 3, a 3 4, a 3 5, a 3 6]
def prm : List Nat := [0, 17, 18, 51, 52, 53, 54, 55, 56, 1, 2, 3, 4, 5, 6, 7, 8, 9, 10, 11, 12, 13, 14, 15, 16] ++ (List.range 32).map (fun i => 19 + i)
theorem arr4 (ad m : Nat → Nat) (h0 : ad 32 = m 0) (h1 : ad 40 = m 1) (h2 : ad 48 = m 2) (h3 : ad 56 = m 3) : va_up (va_up (va_up (va_up (fun _ => none) 0 (some (m 0))) 1 (some (m 1))) 2 (some (m 2))) 3 (some (m 3)) = fun j => (([32, 40, 48, 56] : List Nat)[j]?).map ad := by
  funext j
  match j with
  | 0 => simp [va_up, h0]
  | 1 => simp [va_up, h1]
  | 2 => simp [va_up, h2]
  | 3 => simp [va_up, h3]
  | j + 4 => simp [va_up]
def adF (L : List Nat) (s : Nat) : Nat → Nat := fun k => if k = 64 then s else L.getD (xps k) 0
set_option maxHeartbeats 1000000 in
set_option maxRecDepth 100000 in
theorem fresh (l : Launch) (dC : Nat → ClassId) (dI : Nat → Nat → Nat) (cI cQ : ClassId) (s h0 p0 p1 p2 p3 q0 : Nat) (m : Nat → Nat) (a : Nat → Nat → Nat) (a0 a1 a3 : Nat → Nat) : prm.map (fun i => (wX3 h0 cI cQ p0 p1 p2 p3 q0 m a a0 a1 a3)[i]?) = (xWd (l, dC, dI, adF (adL h0 p0 p1 p2 p3 q0 m a a0 a1 a3) s, cI, cQ) M0).map some := by
  have e := arr4 (adF (adL h0 p0 p1 p2 p3 q0 m a a0 a1 a3) s) m rfl rfl rfl rfl
  unfold wX3
  rw [e]
  rfl
