/-! ===== the small machine: one world of 64 cells whose references never change, its ints a function of (cell, place); values are ints or cell numbers ===== -/
abbrev xV : Type := Int32 ⊕ Nat
abbrev xM : Type := Nat → Nat → Int32
abbrev xS : Type := Nat ⊕ (List Nat ⊕ (Nat × List (Option Nat)))
/-- launch, class numbers, field places, addresses, the class of int[], the class of Memory[] -/
abbrev xP : Type := Launch × (Nat → ClassId) × (Nat → Nat → Nat) × (Nat → Nat) × ClassId × ClassId
def xl (U : xP) : Launch := U.1
def xD (U : xP) : va_G := (U.2.1, U.2.2.1)
def xad (U : xP) : Nat → Nat := U.2.2.2.1
def xcI (U : xP) : ClassId := U.2.2.2.2.1
def xcQ (U : xP) : ClassId := U.2.2.2.2.2
def classes : List vw_C := [(RX0, TX0, 3), (RX1, TX1, 12), (RX2, TX2, 8), (RX3, TX3, 5)]
def xtys (U : xP) : List (ClassId × FieldType) := [(xcI U, .int), (xcQ U, .object RX1)]
/-- the cells: 0 the object; 1, 2 its history; 3 to 8 its text; 9 to 15 the reference; 16 + 8 g the memory g (0 now, 1 the snapshot, 2 to 5 the history's) and its seven rows -/
def xU : List xS := [.inr (.inr (3, [some 16, some 24, some 1, some 3, none])), .inr (.inr (0, [some 2, none, none])), .inr (.inl [32, 40, 48, 56]), .inr (.inr (2, [some 4, none, none, none, some 5, some 6, some 7, some 8])), .inl 60, .inl 5, .inl 5, .inl 5, .inl 5, .inr (.inr (4, [some 10, some 11, some 12, none, some 13, none, some 14, none, some 15, none, none])), .inl 229, .inl 229, .inl 916, .inl 229, .inl 60, .inl 24, .inr (.inr (1, [some 17, some 18, some 19, some 20, some 21, some 22, some 23, none, none, none, none, none])), .inl 32, .inl 32, .inl 32, .inl 32, .inl 32, .inl 32, .inl 32, .inr (.inr (1, [some 25, some 26, some 27, some 28, some 29, some 30, some 31, none, none, none, none, none])), .inl 32, .inl 32, .inl 32, .inl 32, .inl 32, .inl 32, .inl 32, .inr (.inr (1, [some 33, some 34, some 35, some 36, some 37, some 38, some 39, none, none, none, none, none])), .inl 32, .inl 32, .inl 32, .inl 32, .inl 32, .inl 32, .inl 32, .inr (.inr (1, [some 41, some 42, some 43, some 44, some 45, some 46, some 47, none, none, none, none, none])), .inl 32, .inl 32, .inl 32, .inl 32, .inl 32, .inl 32, .inl 32, .inr (.inr (1, [some 49, some 50, some 51, some 52, some 53, some 54, some 55, none, none, none, none, none])), .inl 32, .inl 32, .inl 32, .inl 32, .inl 32, .inl 32, .inl 32, .inr (.inr (1, [some 57, some 58, some 59, some 60, some 61, some 62, some 63, none, none, none, none, none])), .inl 32, .inl 32, .inl 32, .inl 32, .inl 32, .inl 32, .inl 32]
def xsh (k : Nat) : xS := xU.getD k (.inl 0)
def xcv (U : xP) : xV → Value
  | .inl x => .int x
  | .inr k => .ref (xad U k)
def xfo (U : xP) (f : Nat → Int32) (fs : List (Option Nat)) (j : Nat) : Value := match fs[j]? with
  | some (some k) => .ref (xad U k)
  | _ => .int (f j)
def xfv (U : xP) (f : Nat → Int32) (fs : List (Option Nat)) : List Value := (List.range fs.length).map (xfo U f fs)
def xce (U : xP) (f : Nat → Int32) : xS → va_E
  | .inl n => .inl (xcI U, n, .inl f)
  | .inr (.inl ts) => .inl (xcQ U, ts.length, .inr (.inr (.inr (.inr (fun j => (ts[j]?).map (xad U))))))
  | .inr (.inr (ci, fs)) => .inr (ci, xfv U f fs)
/-- the cells that there are (9 to 15 aren't), and their places in the world's list -/
abbrev xk (k : Nat) : Prop := k < 64 ∧ (k < 9 ∨ 16 ≤ k)
def xps (k : Nat) : Nat := if k < 9 then k else k - 7
def xpc (j : Nat) : Nat := if j < 9 then j else j + 7
theorem xpc_k {j : Nat} (h : j < 57) : xk (xpc j) := by unfold xpc; split <;> exact ⟨by omega, by omega⟩
theorem xpc_ps {k : Nat} (h : xk k) : xpc (xps k) = k := by
  obtain ⟨h1, h2⟩ := h
  unfold xpc xps
  by_cases a : k < 9
  · simp [a]
  · have : ¬ k - 7 < 9 := by omega
    simp only [a, if_false, this]
    omega
theorem xps_pc (j : Nat) : xps (xpc j) = j := by
  unfold xpc xps
  by_cases a : j < 9
  · simp [a]
  · have : ¬ j + 7 < 9 := by omega
    simp only [a, if_false, this]
    omega
theorem xps_lt {k : Nat} (h : xk k) : xps k < 57 := by obtain ⟨h1, h2⟩ := h; unfold xps; split <;> omega
def xWd (U : xP) (M : xM) : va_W := (List.range 57).map (fun j => (xad U (xpc j), xce U (M (xpc j)) (xsh (xpc j))))
def xup (M : xM) (k : Nat) (f : Nat → Int32) : xM := fun i => if i = k then f else M i
/-- one number of one cell is another -/
def xset (M : xM) (k j : Nat) (x : Int32) : xM := xup M k (upd (M k) j x)
def xDi (U : xP) : Prop := ∀ i j : Nat, xk i → xk j → xad U i = xad U j → i = j
def xA (U : xP) : Addr → Prop := fun q => ∃ k : Nat, xk k ∧ q = xad U k
theorem xWd_at (U : xP) (M : xM) {j : Nat} (h : j < 57) : (xWd U M)[j]? = some (xad U (xpc j), xce U (M (xpc j)) (xsh (xpc j))) := by
  simp [xWd, h]
theorem xWd_get (U : xP) (M : xM) {k : Nat} (h : xk k) : (xWd U M)[xps k]? = some (xad U k, xce U (M k) (xsh k)) := by
  rw [xWd_at U M (xps_lt h), xpc_ps h]
theorem xWd_len (U : xP) (M : xM) : (xWd U M).length = 57 := by simp [xWd]
theorem xWd_inv (U : xP) (M : xM) {k : Nat} {q : Nat × va_E} (h : (xWd U M)[k]? = some q) : xk (xpc k) ∧ q.1 = xad U (xpc k) := by
  have hk : k < 57 := by have := (List.getElem?_eq_some_iff.mp h).1; rw [xWd_len] at this; exact this
  rw [xWd_at U M hk] at h
  cases h
  exact ⟨xpc_k hk, rfl⟩
theorem xWd_set (U : xP) (M : xM) {k : Nat} (h : xk k) (f : Nat → Int32) : (xWd U M).set (xps k) (xad U k, xce U f (xsh k)) = xWd U (xup M k f) := by
  have hl := xps_lt h
  apply List.ext_getElem?
  intro i
  by_cases hi : i < 57
  · rw [xWd_at U _ hi, List.getElem?_set]
    by_cases e : xps k = i
    · subst e
      simp [xWd_len, hl, xup, xpc_ps h]
    · rw [if_neg e, xWd_at U M hi]
      have e2 : ¬ xpc i = k := fun z => e (by rw [← z, xps_pc])
      simp [xup, e2]
  · rw [List.getElem?_eq_none (by rw [List.length_set, xWd_len]; omega), List.getElem?_eq_none (by rw [xWd_len]; omega)]
theorem xDi.D {U : xP} (h : xDi U) (M : xM) {A : Nat → Prop} (hA : ∀ k : Nat, xk k → A (xad U k)) : va_D A (xWd U M) := by
  refine ⟨fun i j p q hi hj e => ?_, fun k q hk => ?_⟩
  · obtain ⟨a1, b1⟩ := xWd_inv U M hi
    obtain ⟨a2, b2⟩ := xWd_inv U M hj
    have := h _ _ a1 a2 (by rw [← b1, ← b2]; exact e)
    rw [← xps_pc i, ← xps_pc j, this]
  · obtain ⟨a1, b1⟩ := xWd_inv U M hk
    rw [b1]; exact hA _ a1
theorem xfv_get (U : xP) (f : Nat → Int32) (fs : List (Option Nat)) {j : Nat} (h : j < fs.length) : (xfv U f fs)[j]? = some (xfo U f fs j) := by
  simp [xfv, h]
theorem xfv_set (U : xP) (f : Nat → Int32) (fs : List (Option Nat)) {j : Nat} (h : fs[j]? = some none) (x : Int32) : (xfv U f fs).set j (.int x) = xfv U (upd f j x) fs := by
  have hj : j < fs.length := (List.getElem?_eq_some_iff.mp h).1
  apply List.ext_getElem?
  intro i
  by_cases hi : i < fs.length
  · rw [xfv_get U _ fs hi, List.getElem?_set]
    by_cases e : j = i
    · subst e
      have e1 : xfo U (upd f j x) fs j = .int x := by simp only [xfo, h]; simp [upd]
      rw [e1]
      simp [xfv, hj]
    · rw [if_neg e, xfv_get U f fs hi]
      have e2 : ¬ i = j := fun z => e z.symm
      simp only [xfo, upd, if_neg e2]
  · have hl : ∀ g, (xfv U g fs).length = fs.length := fun g => by simp [xfv]
    rw [List.getElem?_eq_none (by rw [List.length_set, hl]; omega), List.getElem?_eq_none (by rw [hl]; omega)]
/-! locals: a list, a place that isn't known is none -/
def xL (U : xP) (ls : Array Slot) (nL : Nat) (L : List (Option xV)) : Prop := ls.size = nL ∧ lv_wf ls ∧ ∀ (i : Nat) (v : xV), L[i]? = some (some v) → ls[i]? = some (.val (xcv U v))
def xas (U : xP) (L : List (Option xV)) : List (Nat × Value) := (List.range L.length).filterMap (fun i => (L[i]?.join).map (fun v => (i, xcv U v)))
theorem xas_mem {U : xP} {L : List (Option xV)} {i : Nat} {v : xV} (h : L[i]? = some (some v)) : (i, xcv U v) ∈ xas U L := by
  refine List.mem_filterMap.mpr ⟨i, List.mem_range.mpr (List.getElem?_eq_some_iff.mp h).1, ?_⟩
  simp [h]
theorem xas_has {U : xP} {ls : Array Slot} {nL : Nat} {L : List (Option xV)} (h : xL U ls nL L) : lv_has ls nL (xas U L) := by
  refine ⟨h.1, h.2.1, fun q hq => ?_⟩
  obtain ⟨i, -, hi⟩ := List.mem_filterMap.mp hq
  cases e : L[i]? with
  | none => simp [e] at hi
  | some o =>
    cases o with
    | none => simp [e] at hi
    | some v =>
      simp [e] at hi
      rw [← hi]
      exact h.2.2 i v e
theorem xcv_cat (U : xP) (v : xV) : (xcv U v).category = 1 := by cases v <;> rfl
theorem xL.set {U : xP} {ls' : Array Slot} {nL i : Nat} {x : Int32} {L : List (Option xV)} {lv : List (Nat × Value)} (hlv : ∀ (j : Nat) (v : xV), L[j]? = some (some v) → j ≠ i → (j, xcv U v) ∈ lv) (h : lv_has ls' nL ((i, Value.int x) :: lv.filter (fun q => !(q.1 == i) && !(q.1 + 1 == i && q.2.category == 2)))) : xL U ls' nL (L.set i (some (.inl x))) := by
  refine ⟨h.1, h.2.1, fun j v hj => ?_⟩
  rw [List.getElem?_set] at hj
  by_cases e : i = j
  · subst e
    simp at hj
    obtain ⟨-, rfl⟩ := hj
    exact h.2.2 (i, Value.int x) List.mem_cons_self
  · rw [if_neg e] at hj
    have e2 : j ≠ i := fun z => e z.symm
    refine h.2.2 (j, xcv U v) (List.mem_cons_of_mem _ (List.mem_filter.mpr ⟨hlv j v hj e2, ?_⟩))
    simp [e2, xcv_cat]
theorem xL.entry (U : xP) (av : List xV) {n : Nat} (h : av.length ≤ n) : xL U ((lg_sl (av.map (xcv U)) ++ List.replicate (n - (lg_sl (av.map (xcv U))).length) Slot.unset).toArray) n (av.map some ++ List.replicate (n - av.length) none) := by
  have hsl : ∀ w : List xV, lg_sl (w.map (xcv U)) = w.map (fun v => Slot.val (xcv U v)) := by
    intro w
    induction w with
    | nil => rfl
    | cons a w ih =>
      have : lg_sl ((a :: w).map (xcv U)) = (if (xcv U a).category = 2 then [Slot.val (xcv U a), .second] else [Slot.val (xcv U a)]) ++ lg_sl (w.map (xcv U)) := rfl
      rw [this, ih, xcv_cat]
      rfl
  have h1 := lv_entry (av.map (xcv U)) (n := n) (by rw [hsl]; simpa using h)
  refine ⟨h1.1, h1.2.1, fun i v hi => ?_⟩
  have hi2 : i < av.length ∧ av[i]? = some v := by
    by_cases hl : i < av.length
    · rw [List.getElem?_append_left (by simpa using hl), List.getElem?_map] at hi
      refine ⟨hl, ?_⟩
      cases e : av[i]? with
      | none => simp [e] at hi
      | some w => simp [e] at hi; rw [hi]
    · rw [List.getElem?_append_right (by simp; omega), List.getElem?_replicate] at hi
      split at hi <;> simp at hi
  rw [hsl]
  simp only [List.getElem?_toArray]
  rw [List.getElem?_append_left (by simpa using hi2.1), List.getElem?_map, hi2.2]
  rfl
/-! the place where a method stands -/
abbrev xG : Type := Program × Env × Room × State × MethodId × Array Value × List Frame × Method × Code × (Nat → Prop) × Nat × Nat × Nat × (State → Prop)
def XW (U : xP) (G : xG) (pc : Nat) (L : List (Option xV)) (st : List xV) (M : xM) : Prop := match G with
  | (p, e, R, s, m, args, below, meth, c, A0, nL, cs, sl, Q) => ∀ (H : Heap) (locs : List Loc) (ls : Array Slot), va_P (xD U) classes (xWd U M) H → va_S A0 s.heap H locs → xL U ls nL L → W p (xl U) e R s m args below meth c H locs cs sl Q (F0 m pc ls (st.map (xcv U)))
/-- what holds all the way: the machine, the bytes, the class, the words, the world's shape, the room for calls of less than K deep -/
def xOK (U : xP) (G : xG) (own : String) (cc : ByteArray) (K : Nat) : Prop := match G with
  | (p, e, R, s, m, args, below, meth, c, A0, nL, cs, sl, Q) => p.tables.exec = Jvm.exec ∧ c.code = cc ∧ c.maxLocals = nL ∧ s.vm.findClass own = some m.cls ∧ (∀ w ∈ gw, w.before args s = true) ∧ va_K (xD U) classes (xtys U) s ∧ xDi U ∧ (∀ w ∈ xnw, va_Nw w s) ∧ (∀ k : Nat, xk k → A0 (xad U k)) ∧ K ≤ R.frames ∧ 34 * K ≤ R.locals ∧ cs ≤ R.cells ∧ sl ≤ R.slots
section XR
variable {U : xP} {G : xG} {own : String} {cc : ByteArray} {K pc : Nat} {L : List (Option xV)} {st : List xV} {M : xM}
theorem x_iload_n (hO : xOK U G own cc K) {k : Fin 4} {i : Nat} {x : Int32} (hd : decode cc pc = .ok (.iload_n k, 1)) (hi : (k : Nat) = i) (hl : L[i]? = some (some (.inl x))) (kk : XW U G (pc + 1) L (.inl x :: st) M) : XW U G pc L st M := by
  obtain ⟨p, e, R, s, m, args, below, meth, c, A0, nL, cs, sl, Q⟩ := G
  intro H locs ls hP hS hL
  exact lv_iload_n hO.1 hO.2.1 hd hi (hL.2.2 i _ hl) (kk H locs ls hP hS hL)
theorem x_iload (hO : xOK U G own cc K) {i : Nat} {x : Int32} (hd : decode cc pc = .ok (.iload i, 2)) (hl : L[i]? = some (some (.inl x))) (kk : XW U G (pc + 2) L (.inl x :: st) M) : XW U G pc L st M := by
  obtain ⟨p, e, R, s, m, args, below, meth, c, A0, nL, cs, sl, Q⟩ := G
  intro H locs ls hP hS hL
  exact lv_iload hO.1 hO.2.1 hd (hL.2.2 i _ hl) (kk H locs ls hP hS hL)
theorem x_aload_n (hO : xOK U G own cc K) {k : Fin 4} {i : Nat} {x : Nat} (hd : decode cc pc = .ok (.aload_n k, 1)) (hi : (k : Nat) = i) (hl : L[i]? = some (some (.inr x))) (kk : XW U G (pc + 1) L (.inr x :: st) M) : XW U G pc L st M := by
  obtain ⟨p, e, R, s, m, args, below, meth, c, A0, nL, cs, sl, Q⟩ := G
  intro H locs ls hP hS hL
  exact lv_aload_n hO.1 hO.2.1 hd hi (hL.2.2 i _ hl) (kk H locs ls hP hS hL)
theorem x_aload (hO : xOK U G own cc K) {i : Nat} {x : Nat} (hd : decode cc pc = .ok (.aload i, 2)) (hl : L[i]? = some (some (.inr x))) (kk : XW U G (pc + 2) L (.inr x :: st) M) : XW U G pc L st M := by
  obtain ⟨p, e, R, s, m, args, below, meth, c, A0, nL, cs, sl, Q⟩ := G
  intro H locs ls hP hS hL
  exact lv_aload hO.1 hO.2.1 hd (hL.2.2 i _ hl) (kk H locs ls hP hS hL)
theorem x_istore_n (hO : xOK U G own cc K) {k : Fin 4} {i n : Nat} {x : Int32} (hd : decode cc pc = .ok (.istore_n k, 1)) (hi : (k : Nat) = i) (hn : L.length = n) (hN : i < n) (hG : G.2.2.2.2.2.2.2.2.2.2.1 = n) (kk : XW U G (pc + 1) (L.set i (some (.inl x))) st M) : XW U G pc L (.inl x :: st) M := by
  obtain ⟨p, e, R, s, m, args, below, meth, c, A0, nL, cs, sl, Q⟩ := G
  intro H locs ls hP hS hL
  exact lv_istore_n hO.1 hO.2.1 hd hi (xas_has hL) (by rw [show nL = n from hG]; exact hN) rfl (fun ls' h => kk H locs ls' hP hS (xL.set (fun j v hj _ => xas_mem hj) h))
theorem x_istore (hO : xOK U G own cc K) {i n : Nat} {x : Int32} (hd : decode cc pc = .ok (.istore i, 2)) (hn : L.length = n) (hN : i < n) (hG : G.2.2.2.2.2.2.2.2.2.2.1 = n) (kk : XW U G (pc + 2) (L.set i (some (.inl x))) st M) : XW U G pc L (.inl x :: st) M := by
  obtain ⟨p, e, R, s, m, args, below, meth, c, A0, nL, cs, sl, Q⟩ := G
  intro H locs ls hP hS hL
  exact lv_istore hO.1 hO.2.1 hd (xas_has hL) (by rw [show nL = n from hG]; exact hN) rfl (fun ls' h => kk H locs ls' hP hS (xL.set (fun j v hj _ => xas_mem hj) h))
theorem x_iinc (hO : xOK U G own cc K) {i n : Nat} {z : Int} {x v : Int32} (hd : decode cc pc = .ok (.iinc i z, 3)) (hl : L[i]? = some (some (.inl x))) (hv : x + Int32.ofInt z = v) (hn : L.length = n) (hG : G.2.2.2.2.2.2.2.2.2.2.1 = n) (kk : XW U G (pc + 3) (L.set i (some (.inl v))) st M) : XW U G pc L st M := by
  obtain ⟨p, e, R, s, m, args, below, meth, c, A0, nL, cs, sl, Q⟩ := G
  intro H locs ls hP hS hL
  have h1 : lv_has ls nL ((i, Value.int x) :: xas U L) := ⟨hL.1, hL.2.1, fun q hq => by
    rcases List.mem_cons.mp hq with rfl | h
    · exact hL.2.2 i (.inl x) hl
    · exact (xas_has hL).2.2 q h⟩
  exact lv_iinc (k := 0) hO.1 hO.2.1 hd h1 rfl hv (by rw [show nL = n from hG, ← hn]; exact (List.getElem?_eq_some_iff.mp hl).1) rfl (fun ls' h => kk H locs ls' hP hS (xL.set (fun j w hj _ => List.mem_cons_of_mem _ (xas_mem hj)) h))
theorem x_iconst (hO : xOK U G own cc K) {z : Int} {v : Int32} (hd : decode cc pc = .ok (.iconst z, 1)) (hv : Int32.ofInt z = v) (kk : XW U G (pc + 1) L (.inl v :: st) M) : XW U G pc L st M := by
  obtain ⟨p, e, R, s, m, args, below, meth, c, A0, nL, cs, sl, Q⟩ := G
  intro H locs ls hP hS hL
  exact lv_iconst hO.1 hO.2.1 hd hv (kk H locs ls hP hS hL)
theorem x_bipush (hO : xOK U G own cc K) {z : Int} {v : Int32} (hd : decode cc pc = .ok (.bipush z, 2)) (hv : (Int8.ofInt z).toInt32 = v) (kk : XW U G (pc + 2) L (.inl v :: st) M) : XW U G pc L st M := by
  obtain ⟨p, e, R, s, m, args, below, meth, c, A0, nL, cs, sl, Q⟩ := G
  intro H locs ls hP hS hL
  exact lv_bipush hO.1 hO.2.1 hd hv (kk H locs ls hP hS hL)
theorem x_sipush (hO : xOK U G own cc K) {z : Int} {v : Int32} (hd : decode cc pc = .ok (.sipush z, 3)) (hv : (Int16.ofInt z).toInt32 = v) (kk : XW U G (pc + 3) L (.inl v :: st) M) : XW U G pc L st M := by
  obtain ⟨p, e, R, s, m, args, below, meth, c, A0, nL, cs, sl, Q⟩ := G
  intro H locs ls hP hS hL
  exact lv_sipush hO.1 hO.2.1 hd hv (kk H locs ls hP hS hL)
theorem x_ldcw (hO : xOK U G own cc K) {index : Nat} {v : Int32} (hc : Cond.constant own index v ∈ gw) (hd : decode cc pc = .ok (.ldc_w index, 3)) (kk : XW U G (pc + 3) L (.inl v :: st) M) : XW U G pc L st M := by
  obtain ⟨p, e, R, s, m, args, below, meth, c, A0, nL, cs, sl, Q⟩ := G
  intro H locs ls hP hS hL
  exact lv_ldcw hO.1 hO.2.1 hO.2.2.2.1 (hO.2.2.2.2.1 _ hc) hd (kk H locs ls hP hS hL)
theorem x_iadd (hO : xOK U G own cc K) {x y : Int32} (hd : decode cc pc = .ok (.iadd, 1)) (kk : XW U G (pc + 1) L (.inl (x + y) :: st) M) : XW U G pc L (.inl y :: .inl x :: st) M := by
  obtain ⟨p, e, R, s, m, args, below, meth, c, A0, nL, cs, sl, Q⟩ := G
  intro H locs ls hP hS hL
  exact lv_iadd hO.1 hO.2.1 hd (kk H locs ls hP hS hL)
theorem x_isub (hO : xOK U G own cc K) {x y : Int32} (hd : decode cc pc = .ok (.isub, 1)) (kk : XW U G (pc + 1) L (.inl (x - y) :: st) M) : XW U G pc L (.inl y :: .inl x :: st) M := by
  obtain ⟨p, e, R, s, m, args, below, meth, c, A0, nL, cs, sl, Q⟩ := G
  intro H locs ls hP hS hL
  exact lv_isub hO.1 hO.2.1 hd (kk H locs ls hP hS hL)
theorem x_imul (hO : xOK U G own cc K) {x y : Int32} (hd : decode cc pc = .ok (.imul, 1)) (kk : XW U G (pc + 1) L (.inl (x * y) :: st) M) : XW U G pc L (.inl y :: .inl x :: st) M := by
  obtain ⟨p, e, R, s, m, args, below, meth, c, A0, nL, cs, sl, Q⟩ := G
  intro H locs ls hP hS hL
  exact lv_imul hO.1 hO.2.1 hd (kk H locs ls hP hS hL)
theorem x_iand (hO : xOK U G own cc K) {x y : Int32} (hd : decode cc pc = .ok (.iand, 1)) (kk : XW U G (pc + 1) L (.inl (x &&& y) :: st) M) : XW U G pc L (.inl y :: .inl x :: st) M := by
  obtain ⟨p, e, R, s, m, args, below, meth, c, A0, nL, cs, sl, Q⟩ := G
  intro H locs ls hP hS hL
  exact lv_iand hO.1 hO.2.1 hd (kk H locs ls hP hS hL)
theorem x_ior (hO : xOK U G own cc K) {x y : Int32} (hd : decode cc pc = .ok (.ior, 1)) (kk : XW U G (pc + 1) L (.inl (x ||| y) :: st) M) : XW U G pc L (.inl y :: .inl x :: st) M := by
  obtain ⟨p, e, R, s, m, args, below, meth, c, A0, nL, cs, sl, Q⟩ := G
  intro H locs ls hP hS hL
  exact lv_ior hO.1 hO.2.1 hd (kk H locs ls hP hS hL)
theorem x_ixor (hO : xOK U G own cc K) {x y : Int32} (hd : decode cc pc = .ok (.ixor, 1)) (kk : XW U G (pc + 1) L (.inl (x ^^^ y) :: st) M) : XW U G pc L (.inl y :: .inl x :: st) M := by
  obtain ⟨p, e, R, s, m, args, below, meth, c, A0, nL, cs, sl, Q⟩ := G
  intro H locs ls hP hS hL
  exact lv_ixor hO.1 hO.2.1 hd (kk H locs ls hP hS hL)
theorem x_ishl (hO : xOK U G own cc K) {x y : Int32} (hd : decode cc pc = .ok (.ishl, 1)) (kk : XW U G (pc + 1) L (.inl (x <<< (y &&& 31)) :: st) M) : XW U G pc L (.inl y :: .inl x :: st) M := by
  obtain ⟨p, e, R, s, m, args, below, meth, c, A0, nL, cs, sl, Q⟩ := G
  intro H locs ls hP hS hL
  exact lv_ishl hO.1 hO.2.1 hd (kk H locs ls hP hS hL)
theorem x_ishr (hO : xOK U G own cc K) {x y : Int32} (hd : decode cc pc = .ok (.ishr, 1)) (kk : XW U G (pc + 1) L (.inl (x >>> (y &&& 31)) :: st) M) : XW U G pc L (.inl y :: .inl x :: st) M := by
  obtain ⟨p, e, R, s, m, args, below, meth, c, A0, nL, cs, sl, Q⟩ := G
  intro H locs ls hP hS hL
  exact lv_ishr hO.1 hO.2.1 hd (kk H locs ls hP hS hL)
theorem x_icmp_eq (hO : xOK U G own cc K) {x y : Int32} {off : Int} {tgt : Nat} (hd : decode cc pc = .ok (.if_icmp .eq off, 3)) (ht : (pc : Int) + off = (tgt : Int)) (kt : x = y → XW U G tgt L st M) (kf : ¬ (x = y) → XW U G (pc + 3) L st M) : XW U G pc L (.inl y :: .inl x :: st) M := by
  obtain ⟨p, e, R, s, m, args, below, meth, c, A0, nL, cs, sl, Q⟩ := G
  intro H locs ls hP hS hL
  exact lv_icmp_eq hO.1 hO.2.1 hd ht (fun q => kt q H locs ls hP hS hL) (fun q => kf q H locs ls hP hS hL)
theorem x_if_eq (hO : xOK U G own cc K) {x : Int32} {off : Int} {tgt : Nat} (hd : decode cc pc = .ok (.ifCond .eq off, 3)) (ht : (pc : Int) + off = (tgt : Int)) (kt : x = 0 → XW U G tgt L st M) (kf : ¬ (x = 0) → XW U G (pc + 3) L st M) : XW U G pc L (.inl x :: st) M := by
  obtain ⟨p, e, R, s, m, args, below, meth, c, A0, nL, cs, sl, Q⟩ := G
  intro H locs ls hP hS hL
  exact lv_if_eq hO.1 hO.2.1 hd ht (fun q => kt q H locs ls hP hS hL) (fun q => kf q H locs ls hP hS hL)
theorem x_icmp_ne (hO : xOK U G own cc K) {x y : Int32} {off : Int} {tgt : Nat} (hd : decode cc pc = .ok (.if_icmp .ne off, 3)) (ht : (pc : Int) + off = (tgt : Int)) (kt : x ≠ y → XW U G tgt L st M) (kf : x = y → XW U G (pc + 3) L st M) : XW U G pc L (.inl y :: .inl x :: st) M := by
  obtain ⟨p, e, R, s, m, args, below, meth, c, A0, nL, cs, sl, Q⟩ := G
  intro H locs ls hP hS hL
  exact lv_icmp_ne hO.1 hO.2.1 hd ht (fun q => kt q H locs ls hP hS hL) (fun q => kf q H locs ls hP hS hL)
theorem x_if_ne (hO : xOK U G own cc K) {x : Int32} {off : Int} {tgt : Nat} (hd : decode cc pc = .ok (.ifCond .ne off, 3)) (ht : (pc : Int) + off = (tgt : Int)) (kt : x ≠ 0 → XW U G tgt L st M) (kf : x = 0 → XW U G (pc + 3) L st M) : XW U G pc L (.inl x :: st) M := by
  obtain ⟨p, e, R, s, m, args, below, meth, c, A0, nL, cs, sl, Q⟩ := G
  intro H locs ls hP hS hL
  exact lv_if_ne hO.1 hO.2.1 hd ht (fun q => kt q H locs ls hP hS hL) (fun q => kf q H locs ls hP hS hL)
theorem x_icmp_lt (hO : xOK U G own cc K) {x y : Int32} {off : Int} {tgt : Nat} (hd : decode cc pc = .ok (.if_icmp .lt off, 3)) (ht : (pc : Int) + off = (tgt : Int)) (kt : x < y → XW U G tgt L st M) (kf : ¬ (x < y) → XW U G (pc + 3) L st M) : XW U G pc L (.inl y :: .inl x :: st) M := by
  obtain ⟨p, e, R, s, m, args, below, meth, c, A0, nL, cs, sl, Q⟩ := G
  intro H locs ls hP hS hL
  exact lv_icmp_lt hO.1 hO.2.1 hd ht (fun q => kt q H locs ls hP hS hL) (fun q => kf q H locs ls hP hS hL)
theorem x_if_lt (hO : xOK U G own cc K) {x : Int32} {off : Int} {tgt : Nat} (hd : decode cc pc = .ok (.ifCond .lt off, 3)) (ht : (pc : Int) + off = (tgt : Int)) (kt : x < 0 → XW U G tgt L st M) (kf : ¬ (x < 0) → XW U G (pc + 3) L st M) : XW U G pc L (.inl x :: st) M := by
  obtain ⟨p, e, R, s, m, args, below, meth, c, A0, nL, cs, sl, Q⟩ := G
  intro H locs ls hP hS hL
  exact lv_if_lt hO.1 hO.2.1 hd ht (fun q => kt q H locs ls hP hS hL) (fun q => kf q H locs ls hP hS hL)
theorem x_icmp_ge (hO : xOK U G own cc K) {x y : Int32} {off : Int} {tgt : Nat} (hd : decode cc pc = .ok (.if_icmp .ge off, 3)) (ht : (pc : Int) + off = (tgt : Int)) (kt : y ≤ x → XW U G tgt L st M) (kf : ¬ (y ≤ x) → XW U G (pc + 3) L st M) : XW U G pc L (.inl y :: .inl x :: st) M := by
  obtain ⟨p, e, R, s, m, args, below, meth, c, A0, nL, cs, sl, Q⟩ := G
  intro H locs ls hP hS hL
  exact lv_icmp_ge hO.1 hO.2.1 hd ht (fun q => kt q H locs ls hP hS hL) (fun q => kf q H locs ls hP hS hL)
theorem x_if_ge (hO : xOK U G own cc K) {x : Int32} {off : Int} {tgt : Nat} (hd : decode cc pc = .ok (.ifCond .ge off, 3)) (ht : (pc : Int) + off = (tgt : Int)) (kt : 0 ≤ x → XW U G tgt L st M) (kf : ¬ (0 ≤ x) → XW U G (pc + 3) L st M) : XW U G pc L (.inl x :: st) M := by
  obtain ⟨p, e, R, s, m, args, below, meth, c, A0, nL, cs, sl, Q⟩ := G
  intro H locs ls hP hS hL
  exact lv_if_ge hO.1 hO.2.1 hd ht (fun q => kt q H locs ls hP hS hL) (fun q => kf q H locs ls hP hS hL)
theorem x_icmp_gt (hO : xOK U G own cc K) {x y : Int32} {off : Int} {tgt : Nat} (hd : decode cc pc = .ok (.if_icmp .gt off, 3)) (ht : (pc : Int) + off = (tgt : Int)) (kt : y < x → XW U G tgt L st M) (kf : ¬ (y < x) → XW U G (pc + 3) L st M) : XW U G pc L (.inl y :: .inl x :: st) M := by
  obtain ⟨p, e, R, s, m, args, below, meth, c, A0, nL, cs, sl, Q⟩ := G
  intro H locs ls hP hS hL
  exact lv_icmp_gt hO.1 hO.2.1 hd ht (fun q => kt q H locs ls hP hS hL) (fun q => kf q H locs ls hP hS hL)
theorem x_if_gt (hO : xOK U G own cc K) {x : Int32} {off : Int} {tgt : Nat} (hd : decode cc pc = .ok (.ifCond .gt off, 3)) (ht : (pc : Int) + off = (tgt : Int)) (kt : 0 < x → XW U G tgt L st M) (kf : ¬ (0 < x) → XW U G (pc + 3) L st M) : XW U G pc L (.inl x :: st) M := by
  obtain ⟨p, e, R, s, m, args, below, meth, c, A0, nL, cs, sl, Q⟩ := G
  intro H locs ls hP hS hL
  exact lv_if_gt hO.1 hO.2.1 hd ht (fun q => kt q H locs ls hP hS hL) (fun q => kf q H locs ls hP hS hL)
theorem x_icmp_le (hO : xOK U G own cc K) {x y : Int32} {off : Int} {tgt : Nat} (hd : decode cc pc = .ok (.if_icmp .le off, 3)) (ht : (pc : Int) + off = (tgt : Int)) (kt : x ≤ y → XW U G tgt L st M) (kf : ¬ (x ≤ y) → XW U G (pc + 3) L st M) : XW U G pc L (.inl y :: .inl x :: st) M := by
  obtain ⟨p, e, R, s, m, args, below, meth, c, A0, nL, cs, sl, Q⟩ := G
  intro H locs ls hP hS hL
  exact lv_icmp_le hO.1 hO.2.1 hd ht (fun q => kt q H locs ls hP hS hL) (fun q => kf q H locs ls hP hS hL)
theorem x_if_le (hO : xOK U G own cc K) {x : Int32} {off : Int} {tgt : Nat} (hd : decode cc pc = .ok (.ifCond .le off, 3)) (ht : (pc : Int) + off = (tgt : Int)) (kt : x ≤ 0 → XW U G tgt L st M) (kf : ¬ (x ≤ 0) → XW U G (pc + 3) L st M) : XW U G pc L (.inl x :: st) M := by
  obtain ⟨p, e, R, s, m, args, below, meth, c, A0, nL, cs, sl, Q⟩ := G
  intro H locs ls hP hS hL
  exact lv_if_le hO.1 hO.2.1 hd ht (fun q => kt q H locs ls hP hS hL) (fun q => kf q H locs ls hP hS hL)
theorem x_idiv (hO : xOK U G own cc K) {x y : Int32} (hd : decode cc pc = .ok (.idiv, 1)) (hne : ¬ y = 0) (kk : XW U G (pc + 1) L (.inl (x / y) :: st) M) : XW U G pc L (.inl y :: .inl x :: st) M := by
  obtain ⟨p, e, R, s, m, args, below, meth, c, A0, nL, cs, sl, Q⟩ := G
  intro H locs ls hP hS hL
  exact lv_idiv hO.1 hO.2.1 hd hne (kk H locs ls hP hS hL)
theorem x_irem (hO : xOK U G own cc K) {x y : Int32} (hd : decode cc pc = .ok (.irem, 1)) (hne : ¬ y = 0) (kk : XW U G (pc + 1) L (.inl (x - x / y * y) :: st) M) : XW U G pc L (.inl y :: .inl x :: st) M := by
  obtain ⟨p, e, R, s, m, args, below, meth, c, A0, nL, cs, sl, Q⟩ := G
  intro H locs ls hP hS hL
  exact lv_irem hO.1 hO.2.1 hd hne (kk H locs ls hP hS hL)
theorem x_iushr (hO : xOK U G own cc K) {x y v : Int32} (hd : decode cc pc = .ok (.iushr, 1)) (hv : (x.toUInt32 >>> (y.toUInt32 &&& Int32.toUInt32 31)).toInt32 = v) (kk : XW U G (pc + 1) L (.inl v :: st) M) : XW U G pc L (.inl y :: .inl x :: st) M := by
  obtain ⟨p, e, R, s, m, args, below, meth, c, A0, nL, cs, sl, Q⟩ := G
  intro H locs ls hP hS hL
  exact lv_iushr hO.1 hO.2.1 hd hv (kk H locs ls hP hS hL)
theorem x_i2c (hO : xOK U G own cc K) {x v : Int32} (hd : decode cc pc = .ok (.i2c, 1)) (hv : (x.toUInt32 % 65536).toInt32 = v) (kk : XW U G (pc + 1) L (.inl v :: st) M) : XW U G pc L (.inl x :: st) M := by
  obtain ⟨p, e, R, s, m, args, below, meth, c, A0, nL, cs, sl, Q⟩ := G
  intro H locs ls hP hS hL
  exact lv_i2c hO.1 hO.2.1 hd hv (kk H locs ls hP hS hL)
theorem x_dup (hO : xOK U G own cc K) {v : xV} (hd : decode cc pc = .ok (.dup, 1)) (kk : XW U G (pc + 1) L (v :: v :: st) M) : XW U G pc L (v :: st) M := by
  obtain ⟨p, e, R, s, m, args, below, meth, c, A0, nL, cs, sl, Q⟩ := G
  intro H locs ls hP hS hL
  exact lv_dup hO.1 hO.2.1 hd (xcv_cat U v) (kk H locs ls hP hS hL)
theorem x_dup2 (hO : xOK U G own cc K) {v w : xV} (hd : decode cc pc = .ok (.dup2, 1)) (kk : XW U G (pc + 1) L (v :: w :: v :: w :: st) M) : XW U G pc L (v :: w :: st) M := by
  obtain ⟨p, e, R, s, m, args, below, meth, c, A0, nL, cs, sl, Q⟩ := G
  intro H locs ls hP hS hL
  exact lv_dup2_11 hO.1 hO.2.1 hd (xcv_cat U v) (xcv_cat U w) (kk H locs ls hP hS hL)
theorem x_pop (hO : xOK U G own cc K) {v : xV} (hd : decode cc pc = .ok (.pop, 1)) (kk : XW U G (pc + 1) L st M) : XW U G pc L (v :: st) M := by
  obtain ⟨p, e, R, s, m, args, below, meth, c, A0, nL, cs, sl, Q⟩ := G
  intro H locs ls hP hS hL
  exact lv_pop hO.1 hO.2.1 hd (xcv_cat U v) (kk H locs ls hP hS hL)
theorem x_goto (hO : xOK U G own cc K) {off : Int} {tgt : Nat} (hd : decode cc pc = .ok (.goto off, 3)) (ht : (pc : Int) + off = (tgt : Int)) (kk : XW U G tgt L st M) : XW U G pc L st M := by
  obtain ⟨p, e, R, s, m, args, below, meth, c, A0, nL, cs, sl, Q⟩ := G
  intro H locs ls hP hS hL
  exact lv_goto hO.1 hO.2.1 hd ht (kk H locs ls hP hS hL)
theorem x_ifnull (hO : xOK U G own cc K) {off : Int} {k : Nat} (hd : decode cc pc = .ok (.ifnull off, 3)) (kk : XW U G (pc + 3) L st M) : XW U G pc L (.inr k :: st) M := by
  obtain ⟨p, e, R, s, m, args, below, meth, c, A0, nL, cs, sl, Q⟩ := G
  intro H locs ls hP hS hL
  exact lv_ifnull hO.1 hO.2.1 hd (kk H locs ls hP hS hL)
theorem x_tableIn (hO : xOK U G own cc K) {dflt lo hi : Int} {offs : Array Int} {len : Nat} {x : Int32} {off : Int} {tgt : Nat} (hd : decode cc pc = .ok (.tableswitch dflt lo hi offs, len)) (h1 : ¬ x.toInt < lo) (h2 : ¬ hi < x.toInt) (ho : offs[(x.toInt - lo).toNat]? = some off) (ht : (pc : Int) + off = (tgt : Int)) (kk : XW U G tgt L st M) : XW U G pc L (.inl x :: st) M := by
  obtain ⟨p, e, R, s, m, args, below, meth, c, A0, nL, cs, sl, Q⟩ := G
  intro H locs ls hP hS hL
  exact lv_tableIn hO.1 hO.2.1 hd h1 h2 ho ht (kk H locs ls hP hS hL)
theorem x_tableOut (hO : xOK U G own cc K) {dflt lo hi : Int} {offs : Array Int} {len : Nat} {x : Int32} {tgt : Nat} (hd : decode cc pc = .ok (.tableswitch dflt lo hi offs, len)) (h : x.toInt < lo ∨ hi < x.toInt) (ht : (pc : Int) + dflt = (tgt : Int)) (kk : XW U G tgt L st M) : XW U G pc L (.inl x :: st) M := by
  obtain ⟨p, e, R, s, m, args, below, meth, c, A0, nL, cs, sl, Q⟩ := G
  intro H locs ls hP hS hL
  exact lv_tableOut hO.1 hO.2.1 hd h ht (kk H locs ls hP hS hL)
theorem x_iald0 (hO : xOK U G own cc K) {k n : Nat} {i : Int32} (hk : xk k) (hs : xsh k = .inl n) (hin : vp_in i n) (hd : decode cc pc = .ok (.iaload, 1)) (kk : XW U G (pc + 1) L (.inl (M k i.toNatClampNeg) :: st) M) : XW U G pc L (.inl i :: .inr k :: st) M := by
  obtain ⟨p, e, R, s, m, args, below, meth, c, A0, nL, cs, sl, Q⟩ := G
  intro H locs ls hP hS hL
  exact va_iald hO.1 hO.2.1 hO.2.2.2.2.2.1 hP (xps k) 0 (cA := xcI U) (n := n) (f := M k) (by rw [xWd_get U M hk, hs]; rfl) rfl hin hd (kk H locs ls hP hS hL)
theorem x_alen (hO : xOK U G own cc K) {k n : Nat} (hk : xk k) (hs : xsh k = .inl n) (hd : decode cc pc = .ok (.arraylength, 1)) (kk : XW U G (pc + 1) L (.inl (nI n) :: st) M) : XW U G pc L (.inr k :: st) M := by
  obtain ⟨p, e, R, s, m, args, below, meth, c, A0, nL, cs, sl, Q⟩ := G
  intro H locs ls hP hS hL
  exact va_alen hO.1 hO.2.1 hO.2.2.2.2.2.1 hP (xps k) 0 (cA := xcI U) (x := (n, .inl (M k))) (ty := .int) (by rw [xWd_get U M hk, hs]; rfl) rfl rfl hd (kk H locs ls hP hS hL)
theorem x_aald (hO : xOK U G own cc K) {k t : Nat} {ts : List Nat} {i : Int32} (hk : xk k) (hs : xsh k = .inr (.inl ts)) (hin : vp_in i ts.length) (ht : ts[i.toNatClampNeg]? = some t) (hd : decode cc pc = .ok (.aaload, 1)) (kk : XW U G (pc + 1) L (.inr t :: st) M) : XW U G pc L (.inl i :: .inr k :: st) M := by
  obtain ⟨p, e, R, s, m, args, below, meth, c, A0, nL, cs, sl, Q⟩ := G
  intro H locs ls hP hS hL
  refine va_aldq hO.1 hO.2.1 hO.2.2.2.2.2.1 hP (xps k) 1 (cA := xcQ U) (C := RX1) (n := ts.length) (f := fun j => (ts[j]?).map (xad U)) (by rw [xWd_get U M hk, hs]; rfl) rfl hin hd ?_
  have := kk H locs ls hP hS hL
  simpa [ht, va_rf, xcv] using this
theorem x_iast0 (hO : xOK U G own cc K) {k n : Nat} {i x : Int32} (hk : xk k) (hs : xsh k = .inl n) (hin : vp_in i n) (hd : decode cc pc = .ok (.iastore, 1)) (kk : XW U G (pc + 1) L st (xset M k i.toNatClampNeg x)) : XW U G pc L (.inl x :: .inl i :: .inr k :: st) M := by
  obtain ⟨p, e, R, s, m, args, below, meth, c, A0, nL, cs, sl, Q⟩ := G
  intro H locs ls hP hS hL
  refine va_iast hO.1 hO.2.1 hO.2.2.2.2.2.1 hP (hO.2.2.2.2.2.2.1.D M hO.2.2.2.2.2.2.2.2.1) hS (xps k) 0 (cA := xcI U) (n := n) (f := M k) (by rw [xWd_get U M hk, hs]; rfl) rfl hin hd (fun H1 locs1 hP1 _ hS1 => ?_)
  refine kk H1 locs1 ls ?_ hS1 hL
  have e : (xad U k, (.inl (xcI U, n, .inl (upd (M k) i.toNatClampNeg x)) : va_E)) = (xad U k, xce U (upd (M k) i.toNatClampNeg x) (xsh k)) := by rw [hs]; rfl
  rw [e, xWd_set U M hk] at hP1
  exact hP1
theorem x_iald (hO : xOK U G own cc K) {k n j : Nat} {i : Int32} (hk : xk k) (hs : xsh k = .inl n) (hn : n < 2 ^ 31) (hi : i = nI j) (hj : j < n) (hd : decode cc pc = .ok (.iaload, 1)) (kk : XW U G (pc + 1) L (.inl (M k j) :: st) M) : XW U G pc L (.inl i :: .inr k :: st) M := by
  subst hi
  refine x_iald0 hO hk hs (vp_in_nI hj hn) hd ?_
  rw [nI_clamp (by omega)]
  exact kk
theorem x_iast (hO : xOK U G own cc K) {k n j : Nat} {i x : Int32} (hk : xk k) (hs : xsh k = .inl n) (hn : n < 2 ^ 31) (hi : i = nI j) (hj : j < n) (hd : decode cc pc = .ok (.iastore, 1)) (kk : XW U G (pc + 1) L st (xset M k j x)) : XW U G pc L (.inl x :: .inl i :: .inr k :: st) M := by
  subst hi
  refine x_iast0 hO hk hs (vp_in_nI hj hn) hd ?_
  rw [nI_clamp (by omega)]
  exact kk
def x_hin {ci : Nat} {q : vw_C} (h : classes[ci]? = some q) : ∀ w ∈ u_ws q.1 q.2.1 q.2.2, w ∈ gw := by
  match ci, h with
  | 0, h => cases h; exact iwX0
  | 1, h => cases h; exact iwX1
  | 2, h => cases h; exact iwX2
  | 3, h => cases h; exact iwX3
  | k + 4, h => simp [classes] at h
theorem x_tyn {ci : Nat} {q : vw_C} (h : classes[ci]? = some q) : ∃ ty0 : Nat → FieldType, (∀ k, k < q.2.2 → parseFieldDescriptor (q.2.1 k).2.2.1 = some (ty0 k)) ∧ (∀ a, a < q.2.2 → ∀ b, b < q.2.2 → a ≠ b → (q.2.1 a).2.1 ≠ (q.2.1 b).2.1) := by
  match ci, h with
  | 0, h => cases h; exact ⟨tyX0, tyX0_ok, nmX0⟩
  | 1, h => cases h; exact ⟨tyX1, tyX1_ok, nmX1⟩
  | 2, h => cases h; exact ⟨tyX2, tyX2_ok, nmX2⟩
  | 3, h => cases h; exact ⟨tyX3, tyX3_ok, nmX3⟩
  | k + 4, h => simp [classes] at h
theorem x_getI (hO : xOK U G own cc K) {k ci j N index : Nat} {fs : List (Option Nat)} {C : String} {T : u_T} (hd : decode cc pc = .ok (.getfield index, 3)) (hlk : Cond.fieldLink own index C (T j).2.1 (T j).2.2.1 ∈ gw) (hk : xk k) (hs : xsh k = .inr (.inr (ci, fs))) (hc : classes[ci]? = some (C, T, N)) (hj : j < N) (hC : (T j).1 = C) (hf : fs[j]? = some none) (kk : XW U G (pc + 3) L (.inl (M k j) :: st) M) : XW U G pc L (.inr k :: st) M := by
  obtain ⟨p, e, R, s, m, args, below, meth, c, A0, nL, cs, sl, Q⟩ := G
  intro H locs ls hP hS hL
  refine va_get (D := xD U) (ci := ci) (v := xcv U (.inl (M k j))) (C := C) (T := T) (N := N) hO.1 hO.2.1 hO.2.2.2.2.1 (x_hin hc) hO.2.2.2.1 hO.2.2.2.2.2.1 hP (xps k) (fs := xfv U (M k) fs) (by rw [xWd_get U M hk, hs]; rfl) hc j hj (hO.2.2.2.2.1 _ hlk) (fun x h => by rw [hC] at h; exact h) ?_ hd (kk H locs ls hP hS hL)
  rw [xfv_get U _ _ (List.getElem?_eq_some_iff.mp hf).1]
  simp only [xfo, hf, xcv]
theorem x_getR (hO : xOK U G own cc K) {k ci j N index : Nat} {t : Nat} {fs : List (Option Nat)} {C : String} {T : u_T} (hd : decode cc pc = .ok (.getfield index, 3)) (hlk : Cond.fieldLink own index C (T j).2.1 (T j).2.2.1 ∈ gw) (hk : xk k) (hs : xsh k = .inr (.inr (ci, fs))) (hc : classes[ci]? = some (C, T, N)) (hj : j < N) (hC : (T j).1 = C) (hf : fs[j]? = some (some t)) (kk : XW U G (pc + 3) L (.inr t :: st) M) : XW U G pc L (.inr k :: st) M := by
  obtain ⟨p, e, R, s, m, args, below, meth, c, A0, nL, cs, sl, Q⟩ := G
  intro H locs ls hP hS hL
  refine va_get (D := xD U) (ci := ci) (v := xcv U (.inr t)) (C := C) (T := T) (N := N) hO.1 hO.2.1 hO.2.2.2.2.1 (x_hin hc) hO.2.2.2.1 hO.2.2.2.2.2.1 hP (xps k) (fs := xfv U (M k) fs) (by rw [xWd_get U M hk, hs]; rfl) hc j hj (hO.2.2.2.2.1 _ hlk) (fun x h => by rw [hC] at h; exact h) ?_ hd (kk H locs ls hP hS hL)
  rw [xfv_get U _ _ (List.getElem?_eq_some_iff.mp hf).1]
  simp only [xfo, hf, xcv]
theorem x_getNI (hO : xOK U G own cc K) {k ci j N index : Nat} {fs : List (Option Nat)} {C host : String} {T : u_T} (hd : decode cc pc = .ok (.getfield index, 3)) (hlk : Cond.fieldLinkNest own index C (T j).2.1 (T j).2.2.1 host ∈ xnw) (hk : xk k) (hs : xsh k = .inr (.inr (ci, fs))) (hc : classes[ci]? = some (C, T, N)) (hj : j < N) (hC : (T j).1 = C) (hf : fs[j]? = some none) (kk : XW U G (pc + 3) L (.inl (M k j) :: st) M) : XW U G pc L (.inr k :: st) M := by
  obtain ⟨p, e, R, s, m, args, below, meth, c, A0, nL, cs, sl, Q⟩ := G
  intro H locs ls hP hS hL
  refine va_getN (D := xD U) (ci := ci) (v := xcv U (.inl (M k j))) (C := C) (T := T) (N := N) hO.1 hO.2.1 hO.2.2.2.2.1 (x_hin hc) hO.2.2.2.1 hO.2.2.2.2.2.1 hP (xps k) (fs := xfv U (M k) fs) (by rw [xWd_get U M hk, hs]; rfl) hc j hj (va_Nw.use rfl (hO.2.2.2.2.2.2.2.1 _ hlk)) (fun x h => by rw [hC] at h; exact h) ?_ hd (kk H locs ls hP hS hL)
  rw [xfv_get U _ _ (List.getElem?_eq_some_iff.mp hf).1]
  simp only [xfo, hf, xcv]
theorem x_getNR (hO : xOK U G own cc K) {k ci j N index : Nat} {t : Nat} {fs : List (Option Nat)} {C host : String} {T : u_T} (hd : decode cc pc = .ok (.getfield index, 3)) (hlk : Cond.fieldLinkNest own index C (T j).2.1 (T j).2.2.1 host ∈ xnw) (hk : xk k) (hs : xsh k = .inr (.inr (ci, fs))) (hc : classes[ci]? = some (C, T, N)) (hj : j < N) (hC : (T j).1 = C) (hf : fs[j]? = some (some t)) (kk : XW U G (pc + 3) L (.inr t :: st) M) : XW U G pc L (.inr k :: st) M := by
  obtain ⟨p, e, R, s, m, args, below, meth, c, A0, nL, cs, sl, Q⟩ := G
  intro H locs ls hP hS hL
  refine va_getN (D := xD U) (ci := ci) (v := xcv U (.inr t)) (C := C) (T := T) (N := N) hO.1 hO.2.1 hO.2.2.2.2.1 (x_hin hc) hO.2.2.2.1 hO.2.2.2.2.2.1 hP (xps k) (fs := xfv U (M k) fs) (by rw [xWd_get U M hk, hs]; rfl) hc j hj (va_Nw.use rfl (hO.2.2.2.2.2.2.2.1 _ hlk)) (fun x h => by rw [hC] at h; exact h) ?_ hd (kk H locs ls hP hS hL)
  rw [xfv_get U _ _ (List.getElem?_eq_some_iff.mp hf).1]
  simp only [xfo, hf, xcv]
theorem x_put (hO : xOK U G own cc K) {k ci j N index : Nat} {fs : List (Option Nat)} {C : String} {T : u_T} {ty : FieldType} {x : Int32} (hd : decode cc pc = .ok (.putfield index, 3)) (hlk : Cond.fieldLink own index C (T j).2.1 (T j).2.2.1 ∈ gw) (hk : xk k) (hs : xsh k = .inr (.inr (ci, fs))) (hc : classes[ci]? = some (C, T, N)) (hj : j < N) (hC : (T j).1 = C) (hf : fs[j]? = some none) (hfin : (T j).2.2.2 = false) (hty : parseFieldDescriptor (T j).2.2.1 = some ty) (hn : narrow ty (.int x) = .int x) (hfit : fits ty (.int x) = true) (kk : XW U G (pc + 3) L st (xset M k j x)) : XW U G pc L (.inl x :: .inr k :: st) M := by
  obtain ⟨p, e, R, s, m, args, below, meth, c, A0, nL, cs, sl, Q⟩ := G
  intro H locs ls hP hS hL
  obtain ⟨ty0, ht0, hnm⟩ := x_tyn hc
  refine va_put (D := xD U) (ci := ci) (v := .int x) (C := C) (T := T) (N := N) hO.1 hO.2.1 hO.2.2.2.2.1 (x_hin hc) ty0 ht0 hnm hO.2.2.2.1 hO.2.2.2.2.2.1 hP (hO.2.2.2.2.2.2.1.D M hO.2.2.2.2.2.2.2.2.1) hS (xps k) (fs := xfv U (M k) fs) (by rw [xWd_get U M hk, hs]; rfl) hc j hj (hO.2.2.2.2.1 _ hlk) (fun x h => by rw [hC] at h; exact h) hfin hty hn hfit (by simp only [xfv, List.length_map, List.length_range]; exact (List.getElem?_eq_some_iff.mp hf).1) hd (fun H1 locs1 hP1 _ hS1 => ?_)
  refine kk H1 locs1 ls ?_ hS1 hL
  have e : (xad U k, (.inr (ci, (xfv U (M k) fs).set j (.int x)) : va_E)) = (xad U k, xce U (upd (M k) j x) (xsh k)) := by rw [hs, xfv_set U _ _ hf]; rfl
  rw [e, xWd_set U M hk] at hP1
  exact hP1
theorem x_putN (hO : xOK U G own cc K) {k ci j N index : Nat} {fs : List (Option Nat)} {C host : String} {T : u_T} {ty : FieldType} {x : Int32} (hd : decode cc pc = .ok (.putfield index, 3)) (hlk : Cond.fieldLinkNest own index C (T j).2.1 (T j).2.2.1 host ∈ xnw) (hk : xk k) (hs : xsh k = .inr (.inr (ci, fs))) (hc : classes[ci]? = some (C, T, N)) (hj : j < N) (hC : (T j).1 = C) (hf : fs[j]? = some none) (hfin : (T j).2.2.2 = false) (hty : parseFieldDescriptor (T j).2.2.1 = some ty) (hn : narrow ty (.int x) = .int x) (hfit : fits ty (.int x) = true) (kk : XW U G (pc + 3) L st (xset M k j x)) : XW U G pc L (.inl x :: .inr k :: st) M := by
  obtain ⟨p, e, R, s, m, args, below, meth, c, A0, nL, cs, sl, Q⟩ := G
  intro H locs ls hP hS hL
  obtain ⟨ty0, ht0, hnm⟩ := x_tyn hc
  refine va_putN (D := xD U) (ci := ci) (v := .int x) (C := C) (T := T) (N := N) hO.1 hO.2.1 hO.2.2.2.2.1 (x_hin hc) ty0 ht0 hnm hO.2.2.2.1 hO.2.2.2.2.2.1 hP (hO.2.2.2.2.2.2.1.D M hO.2.2.2.2.2.2.2.2.1) hS (xps k) (fs := xfv U (M k) fs) (by rw [xWd_get U M hk, hs]; rfl) hc j hj (va_Nw.use rfl (hO.2.2.2.2.2.2.2.1 _ hlk)) (fun x h => by rw [hC] at h; exact h) hfin hty hn hfit (by simp only [xfv, List.length_map, List.length_range]; exact (List.getElem?_eq_some_iff.mp hf).1) hd (fun H1 locs1 hP1 _ hS1 => ?_)
  refine kk H1 locs1 ls ?_ hS1 hL
  have e : (xad U k, (.inr (ci, (xfv U (M k) fs).set j (.int x)) : va_E)) = (xad U k, xce U (upd (M k) j x) (xsh k)) := by rw [hs, xfv_set U _ _ hf]; rfl
  rw [e, xWd_set U M hk] at hP1
  exact hP1
end XR
/-! contracts -/
def xrm (k : Nat) : Room := { frames := k, cells := 0, slots := 0, locals := 34 * k }
def xPre (U : xP) (M : xM) : State → Prop := fun X => va_P (xD U) classes (xWd U M) X.heap ∧ va_K (xD U) classes (xtys U) X ∧ xDi U ∧ ∀ w ∈ xnw, va_Nw w X
def xPost (U : xP) : xM → State → Prop := fun M t => va_P (xD U) classes (xWd U M) t.heap
def xws (mi : xMI) : List Cond := Cond.code mi.1 mi.2.1 mi.2.2.1 mi.2.2.2.1 :: gw
/-- from the numbers M and these arguments: it returns an int, with the numbers M', of which post holds -/
def xMetI (U : xP) (mi : xMI) (av : List xV) (M : xM) (post : Int32 → xM → Prop) : Prop := Met (xl U) mi.1 (xws mi) (xrm mi.2.2.2.2) (va_Pc (av.map (xcv U)) (xPre U M)) (va_Qi post (xPost U) (xA U)) 0 0 (xA U)
def xMetV (U : xP) (mi : xMI) (av : List xV) (M : xM) (post : xM → Prop) : Prop := Met (xl U) mi.1 (xws mi) (xrm mi.2.2.2.2) (va_Pc (av.map (xcv U)) (xPre U M)) (va_Qv post (xPost U) (xA U)) 0 0 (xA U)
theorem xPre.blind {U : xP} {M : xM} {av : List Value} : FrameBlind (va_Pc av (xPre U M)) := fun a X g mk q => by
  obtain ⟨q0, q1, q2, q3, q4⟩ := q
  refine ⟨q0, q1, va_K.moved (u := X) (U := X.calling g mk a) (Vm.Alike.refl X.vm) q2, q3, fun w hw => ?_⟩
  have ht : w.onTables = true := by
    have := (List.mem_filter.mp hw).2
    cases w <;> first | rfl | (simp [xisNest] at this)
  exact va_Nw.same (u := X) (U := X.calling g mk a) ht rfl (q4 w hw)
theorem xPre.warm {U : xP} {M : xM} {s : State} {H : Heap} {X : State} (hX : X.heap = H) (hW : s.WarmedH X.vm) (hP : va_P (xD U) classes (xWd U M) H) (hK : va_K (xD U) classes (xtys U) s) (hDi : xDi U) (hn : ∀ w ∈ xnw, va_Nw w s) : xPre U M X := by
  refine ⟨by rw [hX]; exact hP, va_K.moved hW.alike hK, hDi, fun w hw => ?_⟩
  have h1 := hn w hw
  have h2 := (List.mem_filter.mp hw).2
  cases w <;> first | (simp [xisNest] at h2; done) | exact va_Nw.warmM hW h1 | exact va_Nw.warmF hW h1
theorem xws_good (mi : xMI) {n : Nat} (h : xCal mi n) : GoodIn gw (xws mi) := fun w hw => by
  rcases List.mem_cons.mp hw with rfl | hw
  · exact ⟨h.1, Or.inl rfl⟩
  · exact ⟨hw, good_of_word (List.mem_filter.mp hw).2⟩
section XC
variable {U : xP} {G : xG} {own : String} {cc : ByteArray} {K pc : Nat} {L : List (Option xV)} {st rest : List xV} {M : xM}
theorem x_room {R : Room} {k nL K : Nat} (h1 : K ≤ R.frames) (h2 : 34 * K ≤ R.locals) (hk : k < K) (hn : nL ≤ 15) : (xrm k).frames + 1 ≤ R.frames ∧ 8 + (nL + 11) + (xrm k).locals ≤ R.locals := by
  show k + 1 ≤ R.frames ∧ 8 + (nL + 11) + 34 * k ≤ R.locals
  omega
theorem x_rest (U : xP) : ∀ r : List xV, ((r.map (xcv U)).map fun v => v.category).sum = r.length
  | [] => rfl
  | a :: r => by
    have h := x_rest U r
    simp only [List.map_cons, List.sum_cons, List.length_cons, xcv_cat, h]
    omega
theorem x_callV (hO : xOK U G own cc K) {mi : xMI} {n index b ci : Nat} {fs : List (Option Nat)} {C : String} {T : u_T} {N : Nat} {av : List xV} {post : Int32 → xM → Prop} (hM : xMetI U mi (.inr b :: av) M post) (hd : decode cc pc = .ok (.invokevirtual index, 3)) (hlk : Cond.methodLink own index mi.1 ∈ gw) (hcal : xCal mi n) (hvir : xVir mi) (hk : xk b) (hs : xsh b = .inr (.inr (ci, fs))) (hc : classes[ci]? = some (C, T, N)) (hC : mi.1.cls = C) (hn : av.length = n) (hst : st = av.reverse ++ .inr b :: rest) (hlev : mi.2.2.2.2 < K) (hr : rest.length ≤ 8) (kk : ∀ (r : Int32) (M' : xM), post r M' → XW U G (pc + 3) L (.inl r :: rest) M') : XW U G pc L st M := by
  obtain ⟨p, e, R, s, m, args, below, meth, c, A0, nL, cs, sl, Q⟩ := G
  intro H locs ls hP hS hL
  obtain ⟨o1, o2, o3, o4, o5, o6, o7, o8, o9, o10, o11, o12, o13⟩ := hO
  have cw : CallW R s args own C index mi.1 mi.2.1 mi.2.2.1 mi.2.2.2.1 (xws mi) (xrm mi.2.2.2.2) 0 0 n := ⟨callB_of n o5 (xws_good mi hcal) rfl rfl rfl (o5 _ hcal.2.1) (o5 _ hlk) hcal.2.2.1 (x_room o10 o11 hlev hcal.2.2.2.2), o5 _ hvir.1, by rw [← hC]; exact o5 _ hvir.2⟩
  refine va_calli (va_runV (C := C) (As := av.map (xcv U)) (rest := rest.map (xcv U)) ⟨o1, o2, o3, o4, o5⟩ hM cw ⟨xPre.blind, va_recv o6 hP (ci := ci) (q0 := xps b) hc (by rw [xWd_get U M hk, hs]; rfl), fun X hX hW => ⟨rfl, xPre.warm hX hW hP o6 o7 o8⟩⟩ rfl (by simpa using hn) hL.1 (by subst hst; simp [xcv]) (lv_room (by rw [x_rest]; exact hr)) hd ⟨o12, o13⟩) hS (fun q _ ⟨k, h1, h2⟩ => by rw [h2]; exact o9 k h1) (fun q ⟨k, h1, h2⟩ => by rw [h2]; exact o9 k h1) (fun r M' t H1 locs1 ht hvm hw hB hz1 hk1 hS1 => ?_)
  have hB' : va_P (xD U) classes (xWd U M') t.heap := hB
  rw [ht] at hB'
  exact kk r M' hw H1 locs1 ls hB' hS1 hL
theorem x_callVv (hO : xOK U G own cc K) {mi : xMI} {n index b ci : Nat} {fs : List (Option Nat)} {C : String} {T : u_T} {N : Nat} {av : List xV} {post : xM → Prop} (hM : xMetV U mi (.inr b :: av) M post) (hd : decode cc pc = .ok (.invokevirtual index, 3)) (hlk : Cond.methodLink own index mi.1 ∈ gw) (hcal : xCal mi n) (hvir : xVir mi) (hk : xk b) (hs : xsh b = .inr (.inr (ci, fs))) (hc : classes[ci]? = some (C, T, N)) (hC : mi.1.cls = C) (hn : av.length = n) (hst : st = av.reverse ++ .inr b :: rest) (hlev : mi.2.2.2.2 < K) (hr : rest.length ≤ 8) (kk : ∀ (M' : xM), post M' → XW U G (pc + 3) L rest M') : XW U G pc L st M := by
  obtain ⟨p, e, R, s, m, args, below, meth, c, A0, nL, cs, sl, Q⟩ := G
  intro H locs ls hP hS hL
  obtain ⟨o1, o2, o3, o4, o5, o6, o7, o8, o9, o10, o11, o12, o13⟩ := hO
  have cw : CallW R s args own C index mi.1 mi.2.1 mi.2.2.1 mi.2.2.2.1 (xws mi) (xrm mi.2.2.2.2) 0 0 n := ⟨callB_of n o5 (xws_good mi hcal) rfl rfl rfl (o5 _ hcal.2.1) (o5 _ hlk) hcal.2.2.1 (x_room o10 o11 hlev hcal.2.2.2.2), o5 _ hvir.1, by rw [← hC]; exact o5 _ hvir.2⟩
  refine va_callv (va_runV (C := C) (As := av.map (xcv U)) (rest := rest.map (xcv U)) ⟨o1, o2, o3, o4, o5⟩ hM cw ⟨xPre.blind, va_recv o6 hP (ci := ci) (q0 := xps b) hc (by rw [xWd_get U M hk, hs]; rfl), fun X hX hW => ⟨rfl, xPre.warm hX hW hP o6 o7 o8⟩⟩ rfl (by simpa using hn) hL.1 (by subst hst; simp [xcv]) (lv_room (by rw [x_rest]; exact hr)) hd ⟨o12, o13⟩) hS (fun q _ ⟨k, h1, h2⟩ => by rw [h2]; exact o9 k h1) (fun q ⟨k, h1, h2⟩ => by rw [h2]; exact o9 k h1) (fun M' t H1 locs1 ht hvm hw hB hz1 hk1 hS1 => ?_)
  have hB' : va_P (xD U) classes (xWd U M') t.heap := hB
  rw [ht] at hB'
  exact kk M' hw H1 locs1 ls hB' hS1 hL
theorem x_callS (hO : xOK U G own cc K) {mi : xMI} {n index : Nat} {av : List xV} {post : Int32 → xM → Prop} (hM : xMetI U mi av M post) (hd : decode cc pc = .ok (.invokestatic index, 3)) (hlk : Cond.methodLink own index mi.1 ∈ gw) (hcal : xCal mi n) (hsta : xSta mi) (hn : av.length = n) (hst : st = av.reverse ++ rest) (hlev : mi.2.2.2.2 < K) (hr : rest.length ≤ 8) (kk : ∀ (r : Int32) (M' : xM), post r M' → XW U G (pc + 3) L (.inl r :: rest) M') : XW U G pc L st M := by
  obtain ⟨p, e, R, s, m, args, below, meth, c, A0, nL, cs, sl, Q⟩ := G
  intro H locs ls hP hS hL
  obtain ⟨o1, o2, o3, o4, o5, o6, o7, o8, o9, o10, o11, o12, o13⟩ := hO
  have cw : CallB R s args own index mi.1 mi.2.1 mi.2.2.1 mi.2.2.2.1 (xws mi) (xrm mi.2.2.2.2) 0 0 n ∧ (Cond.static mi.1).before args s = true := ⟨callB_of n o5 (xws_good mi hcal) rfl rfl rfl (o5 _ hcal.2.1) (o5 _ hlk) hcal.2.2.1 (x_room o10 o11 hlev hcal.2.2.2.2), o5 _ hsta⟩
  refine va_calli (va_runS (As := av.map (xcv U)) (rest := rest.map (xcv U)) ⟨o1, o2, o3, o4, o5⟩ hM cw ⟨xPre.blind, fun X hX hW => ⟨rfl, xPre.warm hX hW hP o6 o7 o8⟩⟩ rfl (by simpa using hn) hL.1 (by subst hst; simp [xcv]) (lv_room (by rw [x_rest]; exact hr)) hd ⟨o12, o13⟩) hS (fun q _ ⟨k, h1, h2⟩ => by rw [h2]; exact o9 k h1) (fun q ⟨k, h1, h2⟩ => by rw [h2]; exact o9 k h1) (fun r M' t H1 locs1 ht hvm hw hB hz1 hk1 hS1 => ?_)
  have hB' : va_P (xD U) classes (xWd U M') t.heap := hB
  rw [ht] at hB'
  exact kk r M' hw H1 locs1 ls hB' hS1 hL
theorem x_callSv (hO : xOK U G own cc K) {mi : xMI} {n index : Nat} {av : List xV} {post : xM → Prop} (hM : xMetV U mi av M post) (hd : decode cc pc = .ok (.invokestatic index, 3)) (hlk : Cond.methodLink own index mi.1 ∈ gw) (hcal : xCal mi n) (hsta : xSta mi) (hn : av.length = n) (hst : st = av.reverse ++ rest) (hlev : mi.2.2.2.2 < K) (hr : rest.length ≤ 8) (kk : ∀ (M' : xM), post M' → XW U G (pc + 3) L rest M') : XW U G pc L st M := by
  obtain ⟨p, e, R, s, m, args, below, meth, c, A0, nL, cs, sl, Q⟩ := G
  intro H locs ls hP hS hL
  obtain ⟨o1, o2, o3, o4, o5, o6, o7, o8, o9, o10, o11, o12, o13⟩ := hO
  have cw : CallB R s args own index mi.1 mi.2.1 mi.2.2.1 mi.2.2.2.1 (xws mi) (xrm mi.2.2.2.2) 0 0 n ∧ (Cond.static mi.1).before args s = true := ⟨callB_of n o5 (xws_good mi hcal) rfl rfl rfl (o5 _ hcal.2.1) (o5 _ hlk) hcal.2.2.1 (x_room o10 o11 hlev hcal.2.2.2.2), o5 _ hsta⟩
  refine va_callv (va_runS (As := av.map (xcv U)) (rest := rest.map (xcv U)) ⟨o1, o2, o3, o4, o5⟩ hM cw ⟨xPre.blind, fun X hX hW => ⟨rfl, xPre.warm hX hW hP o6 o7 o8⟩⟩ rfl (by simpa using hn) hL.1 (by subst hst; simp [xcv]) (lv_room (by rw [x_rest]; exact hr)) hd ⟨o12, o13⟩) hS (fun q _ ⟨k, h1, h2⟩ => by rw [h2]; exact o9 k h1) (fun q ⟨k, h1, h2⟩ => by rw [h2]; exact o9 k h1) (fun M' t H1 locs1 ht hvm hw hB hz1 hk1 hS1 => ?_)
  have hB' : va_P (xD U) classes (xWd U M') t.heap := hB
  rw [ht] at hB'
  exact kk M' hw H1 locs1 ls hB' hS1 hL
theorem x_cn {R : Room} {s : State} {args : Array Value} {own host : String} {index n : Nat} {mi : xMI} {K : Nat} (o5 : ∀ w ∈ gw, w.before args s = true) (o8 : ∀ w ∈ xnw, va_Nw w s) (o10 : K ≤ R.frames) (o11 : 34 * K ≤ R.locals) (hlk : Cond.methodLinkNest own index mi.1 host ∈ xnw) (hcal : xCal mi n) (hlev : mi.2.2.2.2 < K) : va_CN R s args own index mi.1 host mi.2.1 mi.2.2.1 mi.2.2.2.1 (xws mi) (xrm mi.2.2.2.2) 0 0 n := va_cnB n o5 (xws_good mi hcal) rfl rfl rfl (o8 _ hlk) (o5 _ hcal.2.1) hcal.2.2.1 (x_room o10 o11 hlev hcal.2.2.2.2)
theorem x_callSN (hO : xOK U G own cc K) {mi : xMI} {n index : Nat} {host : String} {av : List xV} {post : Int32 → xM → Prop} (hM : xMetI U mi av M post) (hd : decode cc pc = .ok (.invokestatic index, 3)) (hlk : Cond.methodLinkNest own index mi.1 host ∈ xnw) (hcal : xCal mi n) (hsta : xSta mi) (hn : av.length = n) (hst : st = av.reverse ++ rest) (hlev : mi.2.2.2.2 < K) (hr : rest.length ≤ 8) (kk : ∀ (r : Int32) (M' : xM), post r M' → XW U G (pc + 3) L (.inl r :: rest) M') : XW U G pc L st M := by
  obtain ⟨p, e, R, s, m, args, below, meth, c, A0, nL, cs, sl, Q⟩ := G
  intro H locs ls hP hS hL
  obtain ⟨o1, o2, o3, o4, o5, o6, o7, o8, o9, o10, o11, o12, o13⟩ := hO
  refine va_calli (va_runSN (host := host) (As := av.map (xcv U)) (rest := rest.map (xcv U)) ⟨o1, o2, o3, o4, o5⟩ hM ⟨x_cn o5 o8 o10 o11 hlk hcal hlev, o5 _ hsta, trivial⟩ ⟨xPre.blind, fun X hX hW => ⟨rfl, xPre.warm hX hW hP o6 o7 o8⟩⟩ rfl (by simpa using hn) hL.1 (by subst hst; simp [xcv]) (lv_room (by rw [x_rest]; exact hr)) hd ⟨o12, o13⟩) hS (fun q _ ⟨k, h1, h2⟩ => by rw [h2]; exact o9 k h1) (fun q ⟨k, h1, h2⟩ => by rw [h2]; exact o9 k h1) (fun r M' t H1 locs1 ht hvm hw hB hz1 hk1 hS1 => ?_)
  have hB' : va_P (xD U) classes (xWd U M') t.heap := hB
  rw [ht] at hB'
  exact kk r M' hw H1 locs1 ls hB' hS1 hL
theorem x_callSNv (hO : xOK U G own cc K) {mi : xMI} {n index : Nat} {host : String} {av : List xV} {post : xM → Prop} (hM : xMetV U mi av M post) (hd : decode cc pc = .ok (.invokestatic index, 3)) (hlk : Cond.methodLinkNest own index mi.1 host ∈ xnw) (hcal : xCal mi n) (hsta : xSta mi) (hn : av.length = n) (hst : st = av.reverse ++ rest) (hlev : mi.2.2.2.2 < K) (hr : rest.length ≤ 8) (kk : ∀ (M' : xM), post M' → XW U G (pc + 3) L rest M') : XW U G pc L st M := by
  obtain ⟨p, e, R, s, m, args, below, meth, c, A0, nL, cs, sl, Q⟩ := G
  intro H locs ls hP hS hL
  obtain ⟨o1, o2, o3, o4, o5, o6, o7, o8, o9, o10, o11, o12, o13⟩ := hO
  refine va_callv (va_runSN (host := host) (As := av.map (xcv U)) (rest := rest.map (xcv U)) ⟨o1, o2, o3, o4, o5⟩ hM ⟨x_cn o5 o8 o10 o11 hlk hcal hlev, o5 _ hsta, trivial⟩ ⟨xPre.blind, fun X hX hW => ⟨rfl, xPre.warm hX hW hP o6 o7 o8⟩⟩ rfl (by simpa using hn) hL.1 (by subst hst; simp [xcv]) (lv_room (by rw [x_rest]; exact hr)) hd ⟨o12, o13⟩) hS (fun q _ ⟨k, h1, h2⟩ => by rw [h2]; exact o9 k h1) (fun q ⟨k, h1, h2⟩ => by rw [h2]; exact o9 k h1) (fun M' t H1 locs1 ht hvm hw hB hz1 hk1 hS1 => ?_)
  have hB' : va_P (xD U) classes (xWd U M') t.heap := hB
  rw [ht] at hB'
  exact kk M' hw H1 locs1 ls hB' hS1 hL
theorem x_callV1 (hO : xOK U G own cc K) {mi : xMI} {n index b ci : Nat} {fs : List (Option Nat)} {C : String} {T : u_T} {N : Nat} {av : List xV} {f : Int32} (hM : xMetI U mi (.inr b :: av) M (fun r M' => r = f ∧ M' = M)) (hd : decode cc pc = .ok (.invokevirtual index, 3)) (hlk : Cond.methodLink own index mi.1 ∈ gw) (hcal : xCal mi n) (hvir : xVir mi) (hk : xk b) (hs : xsh b = .inr (.inr (ci, fs))) (hc : classes[ci]? = some (C, T, N)) (hC : mi.1.cls = C) (hn : av.length = n) (hst : st = av.reverse ++ .inr b :: rest) (hlev : mi.2.2.2.2 < K) (hr : rest.length ≤ 8) (kk : XW U G (pc + 3) L (.inl f :: rest) M) : XW U G pc L st M := x_callV hO hM hd hlk hcal hvir hk hs hc hC hn hst hlev hr (fun r M' ⟨h1, h2⟩ => by rw [h1, h2]; exact kk)
theorem x_callS1 (hO : xOK U G own cc K) {mi : xMI} {n index : Nat} {av : List xV} {f : Int32} (hM : xMetI U mi av M (fun r M' => r = f ∧ M' = M)) (hd : decode cc pc = .ok (.invokestatic index, 3)) (hlk : Cond.methodLink own index mi.1 ∈ gw) (hcal : xCal mi n) (hsta : xSta mi) (hn : av.length = n) (hst : st = av.reverse ++ rest) (hlev : mi.2.2.2.2 < K) (hr : rest.length ≤ 8) (kk : XW U G (pc + 3) L (.inl f :: rest) M) : XW U G pc L st M := x_callS hO hM hd hlk hcal hsta hn hst hlev hr (fun r M' ⟨h1, h2⟩ => by rw [h1, h2]; exact kk)
theorem x_callSN1 (hO : xOK U G own cc K) {mi : xMI} {n index : Nat} {host : String} {av : List xV} {f : Int32} (hM : xMetI U mi av M (fun r M' => r = f ∧ M' = M)) (hd : decode cc pc = .ok (.invokestatic index, 3)) (hlk : Cond.methodLinkNest own index mi.1 host ∈ xnw) (hcal : xCal mi n) (hsta : xSta mi) (hn : av.length = n) (hst : st = av.reverse ++ rest) (hlev : mi.2.2.2.2 < K) (hr : rest.length ≤ 8) (kk : XW U G (pc + 3) L (.inl f :: rest) M) : XW U G pc L st M := x_callSN hO hM hd hlk hcal hsta hn hst hlev hr (fun r M' ⟨h1, h2⟩ => by rw [h1, h2]; exact kk)
theorem x_callVv1 (hO : xOK U G own cc K) {mi : xMI} {n index b ci : Nat} {fs : List (Option Nat)} {C : String} {T : u_T} {N : Nat} {av : List xV} {M1 : xM} (hM : xMetV U mi (.inr b :: av) M (fun M' => M' = M1)) (hd : decode cc pc = .ok (.invokevirtual index, 3)) (hlk : Cond.methodLink own index mi.1 ∈ gw) (hcal : xCal mi n) (hvir : xVir mi) (hk : xk b) (hs : xsh b = .inr (.inr (ci, fs))) (hc : classes[ci]? = some (C, T, N)) (hC : mi.1.cls = C) (hn : av.length = n) (hst : st = av.reverse ++ .inr b :: rest) (hlev : mi.2.2.2.2 < K) (hr : rest.length ≤ 8) (kk : XW U G (pc + 3) L rest M1) : XW U G pc L st M := x_callVv hO hM hd hlk hcal hvir hk hs hc hC hn hst hlev hr (fun M' h1 => by rw [h1]; exact kk)
theorem x_callSv1 (hO : xOK U G own cc K) {mi : xMI} {n index : Nat} {av : List xV} {M1 : xM} (hM : xMetV U mi av M (fun M' => M' = M1)) (hd : decode cc pc = .ok (.invokestatic index, 3)) (hlk : Cond.methodLink own index mi.1 ∈ gw) (hcal : xCal mi n) (hsta : xSta mi) (hn : av.length = n) (hst : st = av.reverse ++ rest) (hlev : mi.2.2.2.2 < K) (hr : rest.length ≤ 8) (kk : XW U G (pc + 3) L rest M1) : XW U G pc L st M := x_callSv hO hM hd hlk hcal hsta hn hst hlev hr (fun M' h1 => by rw [h1]; exact kk)
theorem x_callSNv1 (hO : xOK U G own cc K) {mi : xMI} {n index : Nat} {host : String} {av : List xV} {M1 : xM} (hM : xMetV U mi av M (fun M' => M' = M1)) (hd : decode cc pc = .ok (.invokestatic index, 3)) (hlk : Cond.methodLinkNest own index mi.1 host ∈ xnw) (hcal : xCal mi n) (hsta : xSta mi) (hn : av.length = n) (hst : st = av.reverse ++ rest) (hlev : mi.2.2.2.2 < K) (hr : rest.length ≤ 8) (kk : XW U G (pc + 3) L rest M1) : XW U G pc L st M := x_callSNv hO hM hd hlk hcal hsta hn hst hlev hr (fun M' h1 => by rw [h1]; exact kk)
/-- the end of a method that answers an int -/
def xRI (U : xP) (G : xG) (ty : FieldType) (post : Int32 → xM → Prop) : Prop := match G with
  | (p, e, R, s, m, args, below, meth, c, A0, nL, cs, sl, Q) => meth.sig.returnType = some ty ∧ meth.locks = false ∧ A0 = xA U ∧ Q = MQ below (va_Qi post (xPost U) (xA U)) args s cs sl (xA U)
def xRV (U : xP) (G : xG) (post : xM → Prop) : Prop := match G with
  | (p, e, R, s, m, args, below, meth, c, A0, nL, cs, sl, Q) => meth.sig.returnType = none ∧ meth.locks = false ∧ A0 = xA U ∧ Q = MQ below (va_Qv post (xPost U) (xA U)) args s cs sl (xA U)
theorem x_iret (hO : xOK U G own cc K) {ty : FieldType} {post : Int32 → xM → Prop} (hR : xRI U G ty post) {v : Int32} (hd : decode cc pc = .ok (.ireturn, 1)) (hn : narrow ty (.int v) = .int v) (kk : post v M) : XW U G pc L [.inl v] M := by
  obtain ⟨p, e, R, s, m, args, below, meth, c, A0, nL, cs, sl, Q⟩ := G
  obtain ⟨r1, r2, rfl, rfl⟩ := hR
  intro H locs ls hP hS hL
  exact W.zret (v := v) hO.1 hO.2.1 r1 hn (fun t ht hW => ⟨⟨v, M, rfl, kk, by show va_P _ _ _ _; rw [ht]; exact hP⟩, hS.F ht⟩) hS.2.2 hd r2
theorem x_vret (hO : xOK U G own cc K) {post : xM → Prop} (hR : xRV U G post) (hd : decode cc pc = .ok (.return_, 1)) (kk : post M) : XW U G pc L [] M := by
  obtain ⟨p, e, R, s, m, args, below, meth, c, A0, nL, cs, sl, Q⟩ := G
  obtain ⟨r1, r2, rfl, rfl⟩ := hR
  intro H locs ls hP hS hL
  exact W.vret hO.1 hO.2.1 r1 (fun t ht hW => ⟨⟨M, rfl, kk, by show va_P _ _ _ _; rw [ht]; exact hP⟩, hS.F ht⟩) hS.2.2 hd r2
end XC
theorem xMet_ofWF {y : MethodName} {ws ws' : List Cond} {rm : Room} {Pc : Array Value → State → Prop} {Qc : Array Value → State → Outcome → State → Prop} {mc ms : Nat} {free : Addr → Prop} {cc : ByteArray} {maxL : Nat} {ret : Option FieldType} {l : Launch}
    (hy : plainFor y = true) (hw : ws = Cond.code y cc maxL ret :: ws')
    (body : ∀ p e s m args below meth c s₁, BodyLoose p l y (headSpec ws rm) cc maxL ret e s m args below meth c s₁ → c.maxLocals = maxL → Pc args s →
      W p l e (headSpec ws rm).room s m args below meth c s.heap [] 0 0 (MQ below Qc args s mc ms free) (entryFrame m args maxL)) : Met l y ws rm Pc Qc mc ms free := by
  refine MetFree.of_bodySF (code := cc) (maxLocals := maxL) (ret := ret) hy ?_ ?_
  · intro args s m h hn
    obtain ⟨meth, c, h1, h2, h3, h4, h5, h6, -, -⟩ := Cond.code_spec hn (atoms_spec (ws := ws) h _ (by rw [hw]; exact List.mem_cons_self))
    exact ⟨meth, c, h1, h2, h3, h4, h5, h6⟩
  · intro p e s m args below meth c s₁ B hml hP _
    have hh0 : s₁.heap = s.heap := by rw [B.state]; rfl
    obtain ⟨t, a1, o, b1, b2, b3⟩ := body p e s m args below meth c s₁ B hml hP s₁ hh0 (Stand.of_body B)
    exact ⟨t, o, a1, b1, b2, ⟨b3.1, b3.2⟩⟩
theorem xMetI.of {U : xP} {mi : xMI} {n : Nat} {av : List xV} {M : xM} {post : Int32 → xM → Prop} {ty : FieldType} {L : List (Option xV)} (hc : xCal mi n) (hty : mi.2.2.2.1 = some ty) (hL : av.map some ++ List.replicate (mi.2.2.1 - av.length) none = L) (hl : av.length ≤ mi.2.2.1) (body : ∀ G : xG, G.2.2.2.2.2.2.2.2.2.2.1 = mi.2.2.1 → xOK U G mi.1.cls mi.2.1 mi.2.2.2.2 → xRI U G ty post → XW U G 0 L [] M) : xMetI U mi av M post := by
  refine xMet_ofWF (cc := mi.2.1) (maxL := mi.2.2.1) (ret := mi.2.2.2.1) hc.2.2.2.1 rfl ?_
  intro p e s m args below meth c s₁ B hml hv
  obtain ⟨rfl, hP, hK, hDi, hnw⟩ := hv
  have hts := atoms_spec (ws := xws mi) B.pre
  have h1 := body (p, e, (headSpec (xws mi) (xrm mi.2.2.2.2)).room, s, m, (av.map (xcv U)).toArray, below, meth, c, xA U, mi.2.2.1, 0, 0, MQ below (va_Qi post (xPost U) (xA U)) (av.map (xcv U)).toArray s 0 0 (xA U)) rfl ⟨B.exec, B.bytes, hml, findClass_of_methodNamed B.named, fun w hw => hts w (List.mem_cons_of_mem _ hw), hK, hDi, hnw, fun k hk => ⟨k, hk, rfl⟩, Nat.le_refl _, Nat.le_refl _, Nat.le_refl _, Nat.le_refl _⟩ ⟨by rw [B.returns]; exact hty, B.notSynchronized, rfl, rfl⟩
  have h2 := h1 s.heap [] _ hP va_S.rf (by rw [← hL]; exact xL.entry U av hl)
  rw [lg_entry_eq]
  exact h2
theorem xMetV.of {U : xP} {mi : xMI} {n : Nat} {av : List xV} {M : xM} {post : xM → Prop} {L : List (Option xV)} (hc : xCal mi n) (hty : mi.2.2.2.1 = none) (hL : av.map some ++ List.replicate (mi.2.2.1 - av.length) none = L) (hl : av.length ≤ mi.2.2.1) (body : ∀ G : xG, G.2.2.2.2.2.2.2.2.2.2.1 = mi.2.2.1 → xOK U G mi.1.cls mi.2.1 mi.2.2.2.2 → xRV U G post → XW U G 0 L [] M) : xMetV U mi av M post := by
  refine xMet_ofWF (cc := mi.2.1) (maxL := mi.2.2.1) (ret := mi.2.2.2.1) hc.2.2.2.1 rfl ?_
  intro p e s m args below meth c s₁ B hml hv
  obtain ⟨rfl, hP, hK, hDi, hnw⟩ := hv
  have hts := atoms_spec (ws := xws mi) B.pre
  have h1 := body (p, e, (headSpec (xws mi) (xrm mi.2.2.2.2)).room, s, m, (av.map (xcv U)).toArray, below, meth, c, xA U, mi.2.2.1, 0, 0, MQ below (va_Qv post (xPost U) (xA U)) (av.map (xcv U)).toArray s 0 0 (xA U)) rfl ⟨B.exec, B.bytes, hml, findClass_of_methodNamed B.named, fun w hw => hts w (List.mem_cons_of_mem _ hw), hK, hDi, hnw, fun k hk => ⟨k, hk, rfl⟩, Nat.le_refl _, Nat.le_refl _, Nat.le_refl _, Nat.le_refl _⟩ ⟨by rw [B.returns]; exact hty, B.notSynchronized, rfl, rfl⟩
  have h2 := h1 s.heap [] _ hP va_S.rf (by rw [← hL]; exact xL.entry U av hl)
  rw [lg_entry_eq]
  exact h2
