/-! ===== the small machine with longs: locals and stack are values of the machine ===== -/
def YW (U : xP) (G : xG) (pc : Nat) (lv : List (Nat × Value)) (st : List Value) (M : xM) : Prop := match G with
  | (p, e, R, s, m, args, below, meth, c, A0, nL, cs, sl, Q) => ∀ (H : Heap) (locs : List Loc) (ls : Array Slot), va_P (xD U) classes (xWd U M) H → va_S A0 s.heap H locs → lv_has ls nL lv → W p (xl U) e R s m args below meth c H locs cs sl Q (F0 m pc ls st)
/-- the object -/
def yo (U : xP) : Value := .ref (xad U 0)
/-- the script's array -/
def yS (U : xP) : Value := .ref (xad U 64)
section YR
variable {U : xP} {G : xG} {own : String} {cc : ByteArray} {K pc : Nat} {lv lv' : List (Nat × Value)} {st : List Value} {M : xM}
theorem YW.sub (ks : List Nat) (h : lv_pick lv ks = lv') (kk : YW U G pc lv' st M) : YW U G pc lv st M := by
  obtain ⟨p, e, R, s, m, args, below, meth, c, A0, nL, cs, sl, Q⟩ := G
  intro H locs ls hP hS hL
  exact kk H locs ls hP hS (lv_sub hL ks h)
theorem XW.ofY {L : List (Option xV)} {sx : List xV} (h : YW U G pc (xas U L) (sx.map (xcv U)) M) : XW U G pc L sx M := by
  obtain ⟨p, e, R, s, m, args, below, meth, c, A0, nL, cs, sl, Q⟩ := G
  intro H locs ls hP hS hL
  exact h H locs ls hP hS (xas_has hL)
theorem y_iload_n (hO : xOK U G own cc K) {k : Fin 4} {i n : Nat} {x : Int32} (hd : decode cc pc = .ok (.iload_n k, 1)) (hi : (k : Nat) = i) (hl : lv[n]? = some (i, .int x)) (kk : YW U G (pc + 1) lv (.int x :: st) M) : YW U G pc lv st M := by
  obtain ⟨p, e, R, s, m, args, below, meth, c, A0, nL, cs, sl, Q⟩ := G
  intro H locs ls hP hS hL
  exact lv_iload_n hO.1 hO.2.1 hd hi (lv_at hL n hl) (kk H locs ls hP hS hL)
theorem y_iload (hO : xOK U G own cc K) {i n : Nat} {x : Int32} (hd : decode cc pc = .ok (.iload i, 2)) (hl : lv[n]? = some (i, .int x)) (kk : YW U G (pc + 2) lv (.int x :: st) M) : YW U G pc lv st M := by
  obtain ⟨p, e, R, s, m, args, below, meth, c, A0, nL, cs, sl, Q⟩ := G
  intro H locs ls hP hS hL
  exact lv_iload hO.1 hO.2.1 hd (lv_at hL n hl) (kk H locs ls hP hS hL)
theorem y_aload_n (hO : xOK U G own cc K) {k : Fin 4} {i n x : Nat} (hd : decode cc pc = .ok (.aload_n k, 1)) (hi : (k : Nat) = i) (hl : lv[n]? = some (i, .ref x)) (kk : YW U G (pc + 1) lv (.ref x :: st) M) : YW U G pc lv st M := by
  obtain ⟨p, e, R, s, m, args, below, meth, c, A0, nL, cs, sl, Q⟩ := G
  intro H locs ls hP hS hL
  exact lv_aload_n hO.1 hO.2.1 hd hi (lv_at hL n hl) (kk H locs ls hP hS hL)
theorem y_lload_n (hO : xOK U G own cc K) {k : Fin 4} {i n : Nat} {x : Int64} (hd : decode cc pc = .ok (.lload_n k, 1)) (hi : (k : Nat) = i) (hl : lv[n]? = some (i, .long x)) (kk : YW U G (pc + 1) lv (.long x :: st) M) : YW U G pc lv st M := by
  obtain ⟨p, e, R, s, m, args, below, meth, c, A0, nL, cs, sl, Q⟩ := G
  intro H locs ls hP hS hL
  exact lv_lload_n hO.1 hO.2.1 hd hi (lv_at hL n hl) (kk H locs ls hP hS hL)
theorem y_lload (hO : xOK U G own cc K) {i n : Nat} {x : Int64} (hd : decode cc pc = .ok (.lload i, 2)) (hl : lv[n]? = some (i, .long x)) (kk : YW U G (pc + 2) lv (.long x :: st) M) : YW U G pc lv st M := by
  obtain ⟨p, e, R, s, m, args, below, meth, c, A0, nL, cs, sl, Q⟩ := G
  intro H locs ls hP hS hL
  exact lv_lload hO.1 hO.2.1 hd (lv_at hL n hl) (kk H locs ls hP hS hL)
theorem y_istore_n (hO : xOK U G own cc K) {k : Fin 4} {i n : Nat} {x : Int32} (hG : G.2.2.2.2.2.2.2.2.2.2.1 = n) (hd : decode cc pc = .ok (.istore_n k, 1)) (hi : (k : Nat) = i) (hN : i < n) (hl : (i, Value.int x) :: lv.filter (fun q => !(q.1 == i) && !(q.1 + 1 == i && q.2.category == 2)) = lv') (kk : YW U G (pc + 1) lv' st M) : YW U G pc lv (.int x :: st) M := by
  obtain ⟨p, e, R, s, m, args, below, meth, c, A0, nL, cs, sl, Q⟩ := G
  intro H locs ls hP hS hL
  exact lv_istore_n hO.1 hO.2.1 hd hi hL (by rw [show nL = n from hG]; exact hN) hl (fun ls' h => kk H locs ls' hP hS h)
theorem y_istore (hO : xOK U G own cc K) {i n : Nat} {x : Int32} (hG : G.2.2.2.2.2.2.2.2.2.2.1 = n) (hd : decode cc pc = .ok (.istore i, 2)) (hN : i < n) (hl : (i, Value.int x) :: lv.filter (fun q => !(q.1 == i) && !(q.1 + 1 == i && q.2.category == 2)) = lv') (kk : YW U G (pc + 2) lv' st M) : YW U G pc lv (.int x :: st) M := by
  obtain ⟨p, e, R, s, m, args, below, meth, c, A0, nL, cs, sl, Q⟩ := G
  intro H locs ls hP hS hL
  exact lv_istore hO.1 hO.2.1 hd hL (by rw [show nL = n from hG]; exact hN) hl (fun ls' h => kk H locs ls' hP hS h)
theorem y_lstore_n (hO : xOK U G own cc K) {k : Fin 4} {i n : Nat} {x : Int64} (hG : G.2.2.2.2.2.2.2.2.2.2.1 = n) (hd : decode cc pc = .ok (.lstore_n k, 1)) (hi : (k : Nat) = i) (hN : i + 1 < n) (hl : (i, Value.long x) :: lv.filter (fun q => !(q.1 == i) && (!(q.1 == i + 1) && !(q.1 + 1 == i && q.2.category == 2))) = lv') (kk : YW U G (pc + 1) lv' st M) : YW U G pc lv (.long x :: st) M := by
  obtain ⟨p, e, R, s, m, args, below, meth, c, A0, nL, cs, sl, Q⟩ := G
  intro H locs ls hP hS hL
  exact lv_lstore_n hO.1 hO.2.1 hd hi hL (by rw [show nL = n from hG]; exact hN) hl (fun ls' h => kk H locs ls' hP hS h)
theorem y_lstore (hO : xOK U G own cc K) {i n : Nat} {x : Int64} (hG : G.2.2.2.2.2.2.2.2.2.2.1 = n) (hd : decode cc pc = .ok (.lstore i, 2)) (hN : i + 1 < n) (hl : (i, Value.long x) :: lv.filter (fun q => !(q.1 == i) && (!(q.1 == i + 1) && !(q.1 + 1 == i && q.2.category == 2))) = lv') (kk : YW U G (pc + 2) lv' st M) : YW U G pc lv (.long x :: st) M := by
  obtain ⟨p, e, R, s, m, args, below, meth, c, A0, nL, cs, sl, Q⟩ := G
  intro H locs ls hP hS hL
  exact lv_lstore hO.1 hO.2.1 hd hL (by rw [show nL = n from hG]; exact hN) hl (fun ls' h => kk H locs ls' hP hS h)
theorem y_iinc (hO : xOK U G own cc K) {i n k : Nat} {z : Int} {x v : Int32} (hG : G.2.2.2.2.2.2.2.2.2.2.1 = n) (hd : decode cc pc = .ok (.iinc i z, 3)) (hk : lv[k]? = some (i, .int x)) (hv : x + Int32.ofInt z = v) (hN : i < n) (hl : (i, Value.int v) :: lv.filter (fun q => !(q.1 == i) && !(q.1 + 1 == i && q.2.category == 2)) = lv') (kk : YW U G (pc + 3) lv' st M) : YW U G pc lv st M := by
  obtain ⟨p, e, R, s, m, args, below, meth, c, A0, nL, cs, sl, Q⟩ := G
  intro H locs ls hP hS hL
  exact lv_iinc hO.1 hO.2.1 hd hL hk hv (by rw [show nL = n from hG]; exact hN) hl (fun ls' h => kk H locs ls' hP hS h)
theorem y_iconst (hO : xOK U G own cc K) {z : Int} {v : Int32} (hd : decode cc pc = .ok (.iconst z, 1)) (hv : Int32.ofInt z = v) (kk : YW U G (pc + 1) lv (.int v :: st) M) : YW U G pc lv st M := by
  obtain ⟨p, e, R, s, m, args, below, meth, c, A0, nL, cs, sl, Q⟩ := G
  intro H locs ls hP hS hL
  exact lv_iconst hO.1 hO.2.1 hd hv (kk H locs ls hP hS hL)
theorem y_bipush (hO : xOK U G own cc K) {z : Int} {v : Int32} (hd : decode cc pc = .ok (.bipush z, 2)) (hv : (Int8.ofInt z).toInt32 = v) (kk : YW U G (pc + 2) lv (.int v :: st) M) : YW U G pc lv st M := by
  obtain ⟨p, e, R, s, m, args, below, meth, c, A0, nL, cs, sl, Q⟩ := G
  intro H locs ls hP hS hL
  exact lv_bipush hO.1 hO.2.1 hd hv (kk H locs ls hP hS hL)
theorem y_sipush (hO : xOK U G own cc K) {z : Int} {v : Int32} (hd : decode cc pc = .ok (.sipush z, 3)) (hv : (Int16.ofInt z).toInt32 = v) (kk : YW U G (pc + 3) lv (.int v :: st) M) : YW U G pc lv st M := by
  obtain ⟨p, e, R, s, m, args, below, meth, c, A0, nL, cs, sl, Q⟩ := G
  intro H locs ls hP hS hL
  exact lv_sipush hO.1 hO.2.1 hd hv (kk H locs ls hP hS hL)
theorem y_ldc (hO : xOK U G own cc K) {index : Nat} {v : Int32} (hc : Cond.constant own index v ∈ gw) (hd : decode cc pc = .ok (.ldc index, 2)) (kk : YW U G (pc + 2) lv (.int v :: st) M) : YW U G pc lv st M := by
  obtain ⟨p, e, R, s, m, args, below, meth, c, A0, nL, cs, sl, Q⟩ := G
  intro H locs ls hP hS hL
  exact lv_ldc hO.1 hO.2.1 hO.2.2.2.1 (hO.2.2.2.2.1 _ hc) hd (kk H locs ls hP hS hL)
theorem y_ldc2 (hO : xOK U G own cc K) {index : Nat} {v : Int64} (hc : Cond.constantLong own index v ∈ gw) (hd : decode cc pc = .ok (.ldc2_w index, 3)) (kk : YW U G (pc + 3) lv (.long v :: st) M) : YW U G pc lv st M := by
  obtain ⟨p, e, R, s, m, args, below, meth, c, A0, nL, cs, sl, Q⟩ := G
  intro H locs ls hP hS hL
  exact lv_ldc2 hO.1 hO.2.1 hO.2.2.2.1 (hO.2.2.2.2.1 _ hc) hd (kk H locs ls hP hS hL)
theorem y_iadd (hO : xOK U G own cc K) {x y : Int32} (hd : decode cc pc = .ok (.iadd, 1)) (kk : YW U G (pc + 1) lv (.int (x + y) :: st) M) : YW U G pc lv (.int y :: .int x :: st) M := by
  obtain ⟨p, e, R, s, m, args, below, meth, c, A0, nL, cs, sl, Q⟩ := G
  intro H locs ls hP hS hL
  exact lv_iadd hO.1 hO.2.1 hd (kk H locs ls hP hS hL)
theorem y_imul (hO : xOK U G own cc K) {x y : Int32} (hd : decode cc pc = .ok (.imul, 1)) (kk : YW U G (pc + 1) lv (.int (x * y) :: st) M) : YW U G pc lv (.int y :: .int x :: st) M := by
  obtain ⟨p, e, R, s, m, args, below, meth, c, A0, nL, cs, sl, Q⟩ := G
  intro H locs ls hP hS hL
  exact lv_imul hO.1 hO.2.1 hd (kk H locs ls hP hS hL)
theorem y_iremN (hO : xOK U G own cc K) {a d : Nat} (ha : a < 2 ^ 31) (h0 : 0 < d) (h1 : d < 2 ^ 31) (hd : decode cc pc = .ok (.irem, 1)) (kk : YW U G (pc + 1) lv (.int (nI (a % d)) :: st) M) : YW U G pc lv (.int (nI d) :: .int (nI a) :: st) M := by
  rw [← pk_rem ha h0 h1] at kk
  obtain ⟨p, e, R, s, m, args, below, meth, c, A0, nL, cs, sl, Q⟩ := G
  intro H locs ls hP hS hL
  exact lv_irem hO.1 hO.2.1 hd (nI_ne0 h0 h1) (kk H locs ls hP hS hL)
theorem y_idivN (hO : xOK U G own cc K) {a d : Nat} (ha : a < 2 ^ 31) (h0 : 0 < d) (h1 : d < 2 ^ 31) (hd : decode cc pc = .ok (.idiv, 1)) (kk : YW U G (pc + 1) lv (.int (nI (a / d)) :: st) M) : YW U G pc lv (.int (nI d) :: .int (nI a) :: st) M := by
  rw [← pk_div ha h0 h1] at kk
  obtain ⟨p, e, R, s, m, args, below, meth, c, A0, nL, cs, sl, Q⟩ := G
  intro H locs ls hP hS hL
  exact lv_idiv hO.1 hO.2.1 hd (nI_ne0 h0 h1) (kk H locs ls hP hS hL)
theorem y_ladd (hO : xOK U G own cc K) {x y : Int64} (hd : decode cc pc = .ok (.ladd, 1)) (kk : YW U G (pc + 1) lv (.long (x + y) :: st) M) : YW U G pc lv (.long y :: .long x :: st) M := by
  obtain ⟨p, e, R, s, m, args, below, meth, c, A0, nL, cs, sl, Q⟩ := G
  intro H locs ls hP hS hL
  exact lv_ladd hO.1 hO.2.1 hd (kk H locs ls hP hS hL)
theorem y_lmul (hO : xOK U G own cc K) {x y : Int64} (hd : decode cc pc = .ok (.lmul, 1)) (kk : YW U G (pc + 1) lv (.long (x * y) :: st) M) : YW U G pc lv (.long y :: .long x :: st) M := by
  obtain ⟨p, e, R, s, m, args, below, meth, c, A0, nL, cs, sl, Q⟩ := G
  intro H locs ls hP hS hL
  exact lv_lmul hO.1 hO.2.1 hd (kk H locs ls hP hS hL)
theorem y_i2l (hO : xOK U G own cc K) {x : Int32} (hd : decode cc pc = .ok (.i2l, 1)) (kk : YW U G (pc + 1) lv (.long x.toInt64 :: st) M) : YW U G pc lv (.int x :: st) M := by
  obtain ⟨p, e, R, s, m, args, below, meth, c, A0, nL, cs, sl, Q⟩ := G
  intro H locs ls hP hS hL
  exact lv_i2l hO.1 hO.2.1 hd rfl (kk H locs ls hP hS hL)
/-- two longs that are the same -/
theorem y_lcmp (hO : xOK U G own cc K) {x : Int64} (hd : decode cc pc = .ok (.lcmp, 1)) (kk : YW U G (pc + 1) lv (.int (nI 0) :: st) M) : YW U G pc lv (.long x :: .long x :: st) M := by
  have e0 : lg_cmp x x = nI 0 := by simp [lg_cmp, nI_0]
  rw [← e0] at kk
  obtain ⟨p, e, R, s, m, args, below, meth, c, A0, nL, cs, sl, Q⟩ := G
  intro H locs ls hP hS hL
  exact W.lcmp hO.1 hO.2.1 hd (kk H locs ls hP hS hL)
theorem y_goto (hO : xOK U G own cc K) {off : Int} {tgt : Nat} (hd : decode cc pc = .ok (.goto off, 3)) (ht : (pc : Int) + off = (tgt : Int)) (kk : YW U G tgt lv st M) : YW U G pc lv st M := by
  obtain ⟨p, e, R, s, m, args, below, meth, c, A0, nL, cs, sl, Q⟩ := G
  intro H locs ls hP hS hL
  exact lv_goto hO.1 hO.2.1 hd ht (kk H locs ls hP hS hL)
theorem y_icmp_ne (hO : xOK U G own cc K) {x y : Int32} {off : Int} {tgt : Nat} (hd : decode cc pc = .ok (.if_icmp .ne off, 3)) (ht : (pc : Int) + off = (tgt : Int)) (kt : x ≠ y → YW U G tgt lv st M) (kf : x = y → YW U G (pc + 3) lv st M) : YW U G pc lv (.int y :: .int x :: st) M := by
  obtain ⟨p, e, R, s, m, args, below, meth, c, A0, nL, cs, sl, Q⟩ := G
  intro H locs ls hP hS hL
  exact lv_icmp_ne hO.1 hO.2.1 hd ht (fun q => kt q H locs ls hP hS hL) (fun q => kf q H locs ls hP hS hL)
theorem y_icmp_ge (hO : xOK U G own cc K) {x y : Int32} {off : Int} {tgt : Nat} (hd : decode cc pc = .ok (.if_icmp .ge off, 3)) (ht : (pc : Int) + off = (tgt : Int)) (kt : y ≤ x → YW U G tgt lv st M) (kf : ¬ (y ≤ x) → YW U G (pc + 3) lv st M) : YW U G pc lv (.int y :: .int x :: st) M := by
  obtain ⟨p, e, R, s, m, args, below, meth, c, A0, nL, cs, sl, Q⟩ := G
  intro H locs ls hP hS hL
  exact lv_icmp_ge hO.1 hO.2.1 hd ht (fun q => kt q H locs ls hP hS hL) (fun q => kf q H locs ls hP hS hL)
theorem y_icmp_le (hO : xOK U G own cc K) {x y : Int32} {off : Int} {tgt : Nat} (hd : decode cc pc = .ok (.if_icmp .le off, 3)) (ht : (pc : Int) + off = (tgt : Int)) (kt : x ≤ y → YW U G tgt lv st M) (kf : ¬ (x ≤ y) → YW U G (pc + 3) lv st M) : YW U G pc lv (.int y :: .int x :: st) M := by
  obtain ⟨p, e, R, s, m, args, below, meth, c, A0, nL, cs, sl, Q⟩ := G
  intro H locs ls hP hS hL
  exact lv_icmp_le hO.1 hO.2.1 hd ht (fun q => kt q H locs ls hP hS hL) (fun q => kf q H locs ls hP hS hL)
theorem y_if_eq (hO : xOK U G own cc K) {x : Int32} {off : Int} {tgt : Nat} (hd : decode cc pc = .ok (.ifCond .eq off, 3)) (ht : (pc : Int) + off = (tgt : Int)) (kt : x = 0 → YW U G tgt lv st M) (kf : ¬ (x = 0) → YW U G (pc + 3) lv st M) : YW U G pc lv (.int x :: st) M := by
  obtain ⟨p, e, R, s, m, args, below, meth, c, A0, nL, cs, sl, Q⟩ := G
  intro H locs ls hP hS hL
  exact lv_if_eq hO.1 hO.2.1 hd ht (fun q => kt q H locs ls hP hS hL) (fun q => kf q H locs ls hP hS hL)
theorem y_if_ne (hO : xOK U G own cc K) {x : Int32} {off : Int} {tgt : Nat} (hd : decode cc pc = .ok (.ifCond .ne off, 3)) (ht : (pc : Int) + off = (tgt : Int)) (kt : x ≠ 0 → YW U G tgt lv st M) (kf : x = 0 → YW U G (pc + 3) lv st M) : YW U G pc lv (.int x :: st) M := by
  obtain ⟨p, e, R, s, m, args, below, meth, c, A0, nL, cs, sl, Q⟩ := G
  intro H locs ls hP hS hL
  exact lv_if_ne hO.1 hO.2.1 hd ht (fun q => kt q H locs ls hP hS hL) (fun q => kf q H locs ls hP hS hL)
theorem y_if_lt (hO : xOK U G own cc K) {x : Int32} {off : Int} {tgt : Nat} (hd : decode cc pc = .ok (.ifCond .lt off, 3)) (ht : (pc : Int) + off = (tgt : Int)) (kt : x < 0 → YW U G tgt lv st M) (kf : ¬ (x < 0) → YW U G (pc + 3) lv st M) : YW U G pc lv (.int x :: st) M := by
  obtain ⟨p, e, R, s, m, args, below, meth, c, A0, nL, cs, sl, Q⟩ := G
  intro H locs ls hP hS hL
  exact lv_if_lt hO.1 hO.2.1 hd ht (fun q => kt q H locs ls hP hS hL) (fun q => kf q H locs ls hP hS hL)
theorem y_if_ge (hO : xOK U G own cc K) {x : Int32} {off : Int} {tgt : Nat} (hd : decode cc pc = .ok (.ifCond .ge off, 3)) (ht : (pc : Int) + off = (tgt : Int)) (kt : 0 ≤ x → YW U G tgt lv st M) (kf : ¬ (0 ≤ x) → YW U G (pc + 3) lv st M) : YW U G pc lv (.int x :: st) M := by
  obtain ⟨p, e, R, s, m, args, below, meth, c, A0, nL, cs, sl, Q⟩ := G
  intro H locs ls hP hS hL
  exact lv_if_ge hO.1 hO.2.1 hd ht (fun q => kt q H locs ls hP hS hL) (fun q => kf q H locs ls hP hS hL)
end YR
/-! calls -/
/-- a method that answers a long -/
def xMetL (U : xP) (mi : xMI) (av : List xV) (M : xM) (post : Int64 → xM → Prop) : Prop := Met (xl U) mi.1 (xws mi) (xrm mi.2.2.2.2) (va_Pc (av.map (xcv U)) (xPre U M)) (va_Ql post (xPost U) (xA U)) 0 0 (xA U)
section YC
variable {U : xP} {G : xG} {own : String} {cc : ByteArray} {K pc : Nat} {lv : List (Nat × Value)} {st rest : List Value} {M : xM}
theorem y_callV (hO : xOK U G own cc K) {mi : xMI} {n index b ci : Nat} {fs : List (Option Nat)} {C : String} {T : u_T} {N : Nat} {av : List xV} {post : Int32 → xM → Prop} (hM : xMetI U mi (.inr b :: av) M post) (hd : decode cc pc = .ok (.invokevirtual index, 3)) (hlk : Cond.methodLink own index mi.1 ∈ gw) (hcal : xCal mi n) (hvir : xVir mi) (hk : xk b) (hs : xsh b = .inr (.inr (ci, fs))) (hc : classes[ci]? = some (C, T, N)) (hC : mi.1.cls = C) (hn : av.length = n) (hst : st = (av.map (xcv U)).reverse ++ .ref (xad U b) :: rest) (hlev : mi.2.2.2.2 < K) (hr : (rest.map fun v => v.category).sum ≤ 8) (kk : ∀ (r : Int32) (M' : xM), post r M' → YW U G (pc + 3) lv (.int r :: rest) M') : YW U G pc lv st M := by
  obtain ⟨p, e, R, s, m, args, below, meth, c, A0, nL, cs, sl, Q⟩ := G
  intro H locs ls hP hS hL
  obtain ⟨o1, o2, o3, o4, o5, o6, o7, o8, o9, o10, o11, o12, o13⟩ := hO
  have cw : CallW R s args own C index mi.1 mi.2.1 mi.2.2.1 mi.2.2.2.1 (xws mi) (xrm mi.2.2.2.2) 0 0 n := ⟨callB_of n o5 (xws_good mi hcal) rfl rfl rfl (o5 _ hcal.2.1) (o5 _ hlk) hcal.2.2.1 (x_room o10 o11 hlev hcal.2.2.2.2), o5 _ hvir.1, by rw [← hC]; exact o5 _ hvir.2⟩
  refine va_calli (va_runV (C := C) (As := av.map (xcv U)) (rest := rest) ⟨o1, o2, o3, o4, o5⟩ hM cw ⟨xPre.blind, va_recv o6 hP (ci := ci) (q0 := xps b) hc (by rw [xWd_get U M hk, hs]; rfl), fun X hX hW => ⟨rfl, xPre.warm hX hW hP o6 o7 o8⟩⟩ rfl (by simpa using hn) hL.1 (by subst hst; rfl) (lv_room hr) hd ⟨o12, o13⟩) hS (fun q _ ⟨k, h1, h2⟩ => by rw [h2]; exact o9 k h1) (fun q ⟨k, h1, h2⟩ => by rw [h2]; exact o9 k h1) (fun r M' t H1 locs1 ht hvm hw hB hz1 hk1 hS1 => ?_)
  have hB' : va_P (xD U) classes (xWd U M') t.heap := hB
  rw [ht] at hB'
  exact kk r M' hw H1 locs1 ls hB' hS1 hL
theorem y_callV1 (hO : xOK U G own cc K) {mi : xMI} {n index b ci : Nat} {fs : List (Option Nat)} {C : String} {T : u_T} {N : Nat} {av : List xV} {f : Int32} (hM : xMetI U mi (.inr b :: av) M (fun r M' => r = f ∧ M' = M)) (hd : decode cc pc = .ok (.invokevirtual index, 3)) (hlk : Cond.methodLink own index mi.1 ∈ gw) (hcal : xCal mi n) (hvir : xVir mi) (hk : xk b) (hs : xsh b = .inr (.inr (ci, fs))) (hc : classes[ci]? = some (C, T, N)) (hC : mi.1.cls = C) (hn : av.length = n) (hst : st = (av.map (xcv U)).reverse ++ .ref (xad U b) :: rest) (hlev : mi.2.2.2.2 < K) (hr : (rest.map fun v => v.category).sum ≤ 8) (kk : YW U G (pc + 3) lv (.int f :: rest) M) : YW U G pc lv st M := y_callV hO hM hd hlk hcal hvir hk hs hc hC hn hst hlev hr (fun r M' ⟨h1, h2⟩ => by rw [h1, h2]; exact kk)
theorem y_callS (hO : xOK U G own cc K) {mi : xMI} {n index : Nat} {av : List xV} {post : Int32 → xM → Prop} (hM : xMetI U mi av M post) (hd : decode cc pc = .ok (.invokestatic index, 3)) (hlk : Cond.methodLink own index mi.1 ∈ gw) (hcal : xCal mi n) (hsta : xSta mi) (hn : av.length = n) (hst : st = (av.map (xcv U)).reverse ++ rest) (hlev : mi.2.2.2.2 < K) (hr : (rest.map fun v => v.category).sum ≤ 8) (kk : ∀ (r : Int32) (M' : xM), post r M' → YW U G (pc + 3) lv (.int r :: rest) M') : YW U G pc lv st M := by
  obtain ⟨p, e, R, s, m, args, below, meth, c, A0, nL, cs, sl, Q⟩ := G
  intro H locs ls hP hS hL
  obtain ⟨o1, o2, o3, o4, o5, o6, o7, o8, o9, o10, o11, o12, o13⟩ := hO
  have cw : CallB R s args own index mi.1 mi.2.1 mi.2.2.1 mi.2.2.2.1 (xws mi) (xrm mi.2.2.2.2) 0 0 n ∧ (Cond.static mi.1).before args s = true := ⟨callB_of n o5 (xws_good mi hcal) rfl rfl rfl (o5 _ hcal.2.1) (o5 _ hlk) hcal.2.2.1 (x_room o10 o11 hlev hcal.2.2.2.2), o5 _ hsta⟩
  refine va_calli (va_runS (As := av.map (xcv U)) (rest := rest) ⟨o1, o2, o3, o4, o5⟩ hM cw ⟨xPre.blind, fun X hX hW => ⟨rfl, xPre.warm hX hW hP o6 o7 o8⟩⟩ rfl (by simpa using hn) hL.1 (by subst hst; rfl) (lv_room hr) hd ⟨o12, o13⟩) hS (fun q _ ⟨k, h1, h2⟩ => by rw [h2]; exact o9 k h1) (fun q ⟨k, h1, h2⟩ => by rw [h2]; exact o9 k h1) (fun r M' t H1 locs1 ht hvm hw hB hz1 hk1 hS1 => ?_)
  have hB' : va_P (xD U) classes (xWd U M') t.heap := hB
  rw [ht] at hB'
  exact kk r M' hw H1 locs1 ls hB' hS1 hL
theorem y_callL (hO : xOK U G own cc K) {mi : xMI} {n index : Nat} {av : List xV} {f : Int64} (hM : xMetL U mi av M (fun r M' => r = f ∧ M' = M)) (hd : decode cc pc = .ok (.invokestatic index, 3)) (hlk : Cond.methodLink own index mi.1 ∈ gw) (hcal : xCal mi n) (hsta : xSta mi) (hn : av.length = n) (hst : st = (av.map (xcv U)).reverse ++ rest) (hlev : mi.2.2.2.2 < K) (hr : (rest.map fun v => v.category).sum ≤ 8) (kk : YW U G (pc + 3) lv (.long f :: rest) M) : YW U G pc lv st M := by
  obtain ⟨p, e, R, s, m, args, below, meth, c, A0, nL, cs, sl, Q⟩ := G
  intro H locs ls hP hS hL
  obtain ⟨o1, o2, o3, o4, o5, o6, o7, o8, o9, o10, o11, o12, o13⟩ := hO
  have cw : CallB R s args own index mi.1 mi.2.1 mi.2.2.1 mi.2.2.2.1 (xws mi) (xrm mi.2.2.2.2) 0 0 n ∧ (Cond.static mi.1).before args s = true := ⟨callB_of n o5 (xws_good mi hcal) rfl rfl rfl (o5 _ hcal.2.1) (o5 _ hlk) hcal.2.2.1 (x_room o10 o11 hlev hcal.2.2.2.2), o5 _ hsta⟩
  refine va_calll (va_runS (As := av.map (xcv U)) (rest := rest) ⟨o1, o2, o3, o4, o5⟩ hM cw ⟨xPre.blind, fun X hX hW => ⟨rfl, xPre.warm hX hW hP o6 o7 o8⟩⟩ rfl (by simpa using hn) hL.1 (by subst hst; rfl) (lv_room hr) hd ⟨o12, o13⟩) hS (fun q _ ⟨k, h1, h2⟩ => by rw [h2]; exact o9 k h1) (fun q ⟨k, h1, h2⟩ => by rw [h2]; exact o9 k h1) (fun r M' t H1 locs1 ht hvm hw hB hz1 hk1 hS1 => ?_)
  obtain ⟨hw1, hw2⟩ := hw
  have hB' : va_P (xD U) classes (xWd U M') t.heap := hB
  rw [ht, hw2] at hB'
  rw [hw1]
  exact kk H1 locs1 ls hB' hS1 hL
theorem y_iret (hO : xOK U G own cc K) {ty : FieldType} {post : Int32 → xM → Prop} (hR : xRI U G ty post) {v : Int32} (hd : decode cc pc = .ok (.ireturn, 1)) (hn : narrow ty (.int v) = .int v) (kk : post v M) : YW U G pc lv [.int v] M := by
  obtain ⟨p, e, R, s, m, args, below, meth, c, A0, nL, cs, sl, Q⟩ := G
  obtain ⟨r1, r2, rfl, rfl⟩ := hR
  intro H locs ls hP hS hL
  exact W.zret (v := v) hO.1 hO.2.1 r1 hn (fun t ht hW => ⟨⟨v, M, rfl, kk, by show va_P _ _ _ _; rw [ht]; exact hP⟩, hS.F ht⟩) hS.2.2 hd r2
def xRL (U : xP) (G : xG) (post : Int64 → xM → Prop) : Prop := match G with
  | (p, e, R, s, m, args, below, meth, c, A0, nL, cs, sl, Q) => meth.sig.returnType = some .long ∧ meth.locks = false ∧ A0 = xA U ∧ Q = MQ below (va_Ql post (xPost U) (xA U)) args s cs sl (xA U)
theorem y_lret (hO : xOK U G own cc K) {post : Int64 → xM → Prop} (hR : xRL U G post) {v : Int64} (hd : decode cc pc = .ok (.lreturn, 1)) (kk : post v M) : YW U G pc lv [.long v] M := by
  obtain ⟨p, e, R, s, m, args, below, meth, c, A0, nL, cs, sl, Q⟩ := G
  obtain ⟨r1, r2, rfl, rfl⟩ := hR
  intro H locs ls hP hS hL
  exact W.lret (v := v) hO.1 hO.2.1 r1 (fun t ht hW => ⟨⟨v, M, rfl, kk, by show va_P _ _ _ _; rw [ht]; exact hP⟩, hS.F ht⟩) hS.2.2 hd r2
end YC
theorem xMetL.of {U : xP} {mi : xMI} {n : Nat} {av : List xV} {M : xM} {post : Int64 → xM → Prop} {L : List (Option xV)} (hc : xCal mi n) (hty : mi.2.2.2.1 = some .long) (hL : av.map some ++ List.replicate (mi.2.2.1 - av.length) none = L) (hl : av.length ≤ mi.2.2.1) (body : ∀ G : xG, G.2.2.2.2.2.2.2.2.2.2.1 = mi.2.2.1 → xOK U G mi.1.cls mi.2.1 mi.2.2.2.2 → xRL U G post → XW U G 0 L [] M) : xMetL U mi av M post := by
  refine xMet_ofWF (cc := mi.2.1) (maxL := mi.2.2.1) (ret := mi.2.2.2.1) hc.2.2.2.1 rfl ?_
  intro p e s m args below meth c s₁ B hml hv
  obtain ⟨rfl, hP, hK, hDi, hnw⟩ := hv
  have hts := atoms_spec (ws := xws mi) B.pre
  have h1 := body (p, e, (headSpec (xws mi) (xrm mi.2.2.2.2)).room, s, m, (av.map (xcv U)).toArray, below, meth, c, xA U, mi.2.2.1, 0, 0, MQ below (va_Ql post (xPost U) (xA U)) (av.map (xcv U)).toArray s 0 0 (xA U)) rfl ⟨B.exec, B.bytes, hml, findClass_of_methodNamed B.named, fun w hw => hts w (List.mem_cons_of_mem _ hw), hK, hDi, hnw, fun k hk => ⟨k, hk, rfl⟩, Nat.le_refl _, Nat.le_refl _, Nat.le_refl _, Nat.le_refl _⟩ ⟨by rw [B.returns]; exact hty, B.notSynchronized, rfl, rfl⟩
  have h2 := h1 s.heap [] _ hP va_S.rf (by rw [← hL]; exact xL.entry U av hl)
  rw [lg_entry_eq]
  exact h2
