/-! ===== the document's state, and what each call does to it ===== -/
/-- a memory: its rows, and its numbers (placing, added, moved, searches, powers) -/
abbrev aSt : Type := aR × (Nat → Int32)
/-- the object: its memory, the snapshot, the history (the latest first), the text (its length, its characters, then -1) -/
abbrev aO : Type := aSt × Option aSt × List aSt × (Nat × tT)
def oRec (s : aO) : aO := (s.1, s.2.1, (s.1 :: s.2.2.1).take 4, s.2.2.2)
def oCur (s : aO) (x : aSt) : aO := (x, s.2)
def oTxt (s : aO) (t : Nat × tT) : aO := (s.1, s.2.1, s.2.2.1, t)
def addS (s : aSt) (v m k a : Int32) : aSt := (aAdd s.1 (s.2 0) k (rowOf (s.2 1) 0 m v k a), upd (upd s.2 1 (s.2 1 + nI 1)) 2 (s.2 2 + nI (oM s.1 k)))
def argB (v m k a : Int32) : Bool := ixB v 256 && (ixB m 256 && (ixB k 100 && ixB a 10))
def o_addRule (s : aO) (v m k a : Int32) : Int32 × aO := if argB v m k a then (if aCnt s.1.1 = 32 then (-3, s) else (s.1.2 1, oCur (oRec s) (addS s.1 v m k a))) else (-2, s)
def blkS (s : aSt) (f h : Nat) (k a : Int32) : aSt := ((aBlk (s.2 0) k a (s.2 1) h 14 0 f (s.1, s.2 2)).1, upd (upd s.2 1 (s.2 1 + nI 1)) 2 (aBlk (s.2 0) k a (s.2 1) h 14 0 f (s.1, s.2 2)).2)
def o_addRange (s : aO) (x y k a : Int32) : Int32 × aO := if rgB x y && (ixB k 100 && ixB a 10) then (if 32 - aCnt s.1.1 < bCn y.toNatClampNeg x.toNatClampNeg 14 then (-3, s) else (s.1.2 1, oCur (oRec s) (blkS s.1 x.toNatClampNeg y.toNatClampNeg k a))) else (-2, s)
def o_remove (s : aO) (x : Int32) : Int32 × aO := if nC (pRule s.1.1 x) 32 = 0 then (-1, s) else (nI (nC (pRule s.1.1 x) 32), oCur (oRec s) (aDrop s.1.1 x, s.1.2))
def o_setPlacing (s : aO) (x : Int32) : Int32 × aO := if ixB x 3 then (if x = s.1.2 0 then (-4, s) else (s.1.2 0, oCur (oRec s) (s.1.1, upd s.1.2 0 x))) else (-2, s)
/-- the rows with the entries in the first slots of n shares -/
def aSp (A : aR) (n : Nat) : aR := fun s => if nF (fun p => aTg n p == s) 0 (aCnt A) < aCnt A then A (kth A (nF (fun p => aTg n p == s) 0 (aCnt A))) else eR
def o_re (s : aO) (n : Nat) : Int32 × aO := if nC (pOut s.1.1 n) 32 = 0 then (-4, s) else (nI (nC (pOut s.1.1 n) 32), oCur (oRec s) (aSp s.1.1 n, upd s.1.2 2 (s.1.2 2 + nI (nC (pOut s.1.1 n) 32))))
def o_search (s : aO) (x : Int32) : Int32 × aO := if ixB x 256 then (if aFd s.1.1 x < 32 then (s.1.1 (aFd s.1.1 x) 5, oCur (oRec s) (aHt s.1.1 (s.1.1 (aFd s.1.1 x) 0), upd (upd s.1.2 3 (s.1.2 3 + nI 1)) 4 (s.1.2 4 + nI (aPw s.1.1 x 4)))) else (-4, s)) else (-2, s)
def o_type (s : aO) (x : Int32) : Int32 × aO := if s.2.2.2.1 < 60 then (nI (s.2.2.2.1 + 1), oTxt s (s.2.2.2.1 + 1, upd s.2.2.2.2 s.2.2.2.1 x)) else (-3, s)
def o_clearText (s : aO) : Int32 × aO := (nI s.2.2.2.1, oTxt s (0, fun _ => -1))
def txtS (s : aSt) (T : tT) (n : Nat) : Nat → aSt
  | 0 => s
  | i + 1 => addS (txtS s T n i) (nI (eV T (tB T n i) 8)) (nI (eM T (tB T n i) 8)) (rRank T n (tB T n i)) (rAct T n (tB T n i))
def o_addText (s : aO) : Int32 × aO :=
  if (tx s.2.2.2.2 s.2.2.2.1 5 0 0).1 then (if 32 - aCnt s.1.1 < (tx s.2.2.2.2 s.2.2.2.1 5 0 0).2.2 then (-3, s) else (nI (tx s.2.2.2.2 s.2.2.2.1 5 0 0).2.2, oCur (oRec s) (txtS s.1 s.2.2.2.2 s.2.2.2.1 (tx s.2.2.2.2 s.2.2.2.1 5 0 0).2.2))) else (-100 - nI (tx s.2.2.2.2 s.2.2.2.1 5 0 0).2.1, s)
def o_undo (s : aO) : Int32 × aO := match s.2.2.1 with
  | [] => (-4, s)
  | x :: h => (nI h.length, (x, s.2.1, h, s.2.2.2))
def o_keep (s : aO) : Int32 × aO := (nI (aCnt s.1.1), (s.1, some s.1, s.2.2.1, s.2.2.2))
def o_restore (s : aO) : Int32 × aO := match s.2.1 with
  | none => (-4, s)
  | some x => (nI (aCnt x.1), oCur (oRec s) x)
def q_in (A : aR) (w : Nat) (x : Int32) : Int32 := if ixB x 32 then (if aoc A x.toNatClampNeg then A x.toNatClampNeg w else -4) else -1
def q_sort (A : aR) (x : Int32) : Int32 := if q_in A 2 x < 0 then q_in A 2 x else aSo (q_in A 2 x)
def q_slotOf (A : aR) (x y : Int32) : Int32 := aN (nF (pPart A x y) 0 32)
def q_parts (A : aR) (x : Int32) : Int32 := if nC (pRule A x) 32 = 0 then -1 else nI (nC (pRule A x) 32)
def q_of (A : aR) (w : Nat) (x : Int32) : Int32 := if nF (pPart A x 0) 0 32 < 32 then A (nF (pPart A x 0) 0 32) w else -1
def q_find (A : aR) (x : Int32) : Int32 := if ixB x 256 then (if aFd A x < 32 then A (aFd A x) 0 else -4) else -2
def q_power (A : aR) (x : Int32) : Int32 := if ixB x 256 then nI (aPw A x 4) else -2
def q_fm (A : aR) (x : Int32) : Int32 := if ixB x 4 then aFM A x.toNatClampNeg else -1
def q_fv (A : aR) (x : Int32) : Int32 := if ixB x 4 then aFV A x.toNatClampNeg else -1
def q_hid (A : aR) (x : Int32) : Int32 := if ixB x 32 then (if aoc A x.toNatClampNeg then (if aHid A x.toNatClampNeg = -1 then -4 else aHid A x.toNatClampNeg) else -4) else -1
def q_keys (A : aR) (x : Int32) : Int32 := if ixB x 32 then nI (aKs A x 256) else -1
def q_wm (A : aR) (x : Int32) : Int32 := if ixB x 100 then (if aCnt A = 32 then -3 else nI (oM A x)) else -2
def q_ef (x y : Int32) : Int32 := if rgB x y then nI (bCn y.toNatClampNeg x.toNatClampNeg 14) else -2
/-- the entries that no key finds -/
def aNever (A : aR) : Nat := nC (fun s => aoc A s && (aKs A (nI s) 256 == 0)) 32
def q_total (s : aO) (x : Int32) : Int32 :=
  if x = nI 0 then nI (aCnt s.1.1) else if x = nI 1 then nI (nC (pP0 s.1.1) 32) else if x = nI 2 then s.1.2 1 else if x = nI 3 then s.1.2 0 else if x = nI 4 then s.1.2 2 else if x = nI 5 then s.1.2 3 else if x = nI 6 then s.1.2 4 else if x = nI 7 then nI (aNever s.1.1) else if x = nI 8 then nI (aKs s.1.1 (-1) 256) else if x = nI 9 then nI s.2.2.1.length else if x = nI 10 then nI s.2.2.2.1 else -2
theorem aTg_inj {n p q : Nat} (hn : n ≤ 32) (h : aTg n p = aTg n q) : p = q := by
  rcases Nat.lt_trichotomy p q with z | z | z
  · have := aTg_lt2 hn z
    omega
  · exact z
  · have := aTg_lt2 hn z
    omega
theorem aSp_is (A : aR) {n : Nat} (hn : n ≤ 32) : isSp A n (aSp A n) := by
  constructor
  · intro p hp
    have e : nF (fun q => aTg n q == aTg n p) 0 (aCnt A) = p := nF_eq (Nat.zero_le _) (by omega) (fun j _ hj => by
      have : ¬ aTg n j = aTg n p := fun z => by have := aTg_inj hn z; omega
      simpa using this) (fun _ => by simp)
    unfold aSp
    rw [e, if_pos hp]
  · intro s hs
    unfold aSp
    rw [if_neg]
    intro h
    have := nF_yes (P := fun p => aTg n p == s) (aCnt A) 0 (by omega)
    exact hs _ h (by simpa using this)
theorem isSp.eq {A B : aR} {n : Nat} (hn : n ≤ 32) (h : isSp A n B) : B = aSp A n := h.uni (aSp_is A hn)
/-! ===== the object's cells, as the document's state ===== -/
def sc (g : Nat → Int32) : Nat → Int32 := fun j => if j < 5 then g (7 + j) else 0
theorem sc_upd (g : Nat → Int32) {j : Nat} (hj : j < 5) (x : Int32) : sc (upd g (7 + j) x) = upd (sc g) j x := by
  funext i
  unfold sc
  simp only [upd_at]
  by_cases e : i = j
  · subst e
    simp [hj]
  · have : ¬ 7 + i = 7 + j := by omega
    simp [e, this]
def stC (M : xM) (b : Nat) : aSt := (cA M b, sc (M b))
def RC (M : xM) (s : aO) : Prop := stC M 16 = s.1 ∧ ((M 0 4 = 0 ∧ s.2.1 = none) ∨ (M 0 4 = 1 ∧ s.2.1 = some (stC M 24))) ∧ (∃ o c : Nat, o < 4 ∧ c ≤ 4 ∧ M 1 1 = nI o ∧ M 1 2 = nI c ∧ s.2.2.1 = (List.range c).map (fun k => stC M (hb o (c - 1 - k)))) ∧ ∃ n : Nat, n ≤ 60 ∧ M 3 1 = nI n ∧ s.2.2.2 = (n, sg (M 4) n)
/-- the reference's cells stay -/
def frC (M M' : xM) : Prop := ∀ k, 9 ≤ k → k ≤ 15 → M' k = M k
theorem frC.tr {M M1 M2 : xM} (h1 : frC M M1) (h2 : frC M1 M2) : frC M M2 := fun k a b => by rw [h2 k a b, h1 k a b]
theorem stC_eq {M M' : xM} {b b' : Nat} (h1 : cA M' b' = cA M b) (h2 : ∀ j, 7 ≤ j → j < 12 → M' b' j = M b j) : stC M' b' = stC M b := by
  unfold stC
  rw [h1]
  congr 1
  funext j
  unfold sc
  split
  · exact h2 _ (by omega) (by omega)
  · rfl
theorem stC_fr {M M' : xM} {b : Nat} (h : ∀ k, b ≤ k → k < b + 8 → M' k = M k) : stC M' b = stC M b := stC_eq (cA_ext (fun s hs => cA_row hs hs (fun w hw => by rw [h _ (by omega) (by omega)])) (fun s hs => cA_ge hs)) (fun j _ _ => by rw [h b (by omega) (by omega)])
theorem RC.mem {M M' : xM} {s : aO} {A' : aR} {g' : Nat → Int32} (h : RC M s) (hm : mSt M M' A' g') : RC M' (oCur s (A', sc g')) ∧ frC M M' := by
  obtain ⟨h1, h2, ⟨o, c, h3, h4, h5, h6, h7⟩, n, h8, h9, h10⟩ := h
  have e : ∀ k, (k < 16 ∨ 24 ≤ k) → M' k = M k := hm.2.2
  have eb : ∀ i, stC M' (hb o i) = stC M (hb o i) := fun i => stC_fr (fun k a _ => e k (by unfold hb at a; omega))
  refine ⟨⟨?_, ?_, ⟨o, c, h3, h4, by rw [e 1 (by omega)]; exact h5, by rw [e 1 (by omega)]; exact h6, ?_⟩, n, h8, by rw [e 3 (by omega)]; exact h9, by rw [e 4 (by omega)]; exact h10⟩, fun k _ _ => e k (by omega)⟩
  · unfold stC oCur
    rw [hm.1, hm.2.1]
  · rw [e 0 (by omega), stC_fr (M := M) (M' := M') (b := 24) (fun k _ _ => e k (by omega))]
    exact h2
  · simp only [eb]
    exact h7
theorem hb_ap {o i j : Nat} (h : (o + i) % 4 ≠ (o + j) % 4) : hb o i + 8 ≤ hb o j ∨ hb o j + 8 ≤ hb o i := by
  unfold hb
  omega
theorem range_map_succ {α : Type} (f : Nat → α) (n : Nat) : (List.range (n + 1)).map f = f 0 :: (List.range n).map (fun k => f (k + 1)) := by
  rw [List.range_succ_eq_map]
  simp
theorem RC.rec {M M' : xM} {s : aO} {o c o1 c1 : Nat} (h : RC M s) (ho : M 1 1 = nI o) (hc : M 1 2 = nI c) (ho4 : o < 4) (hc4 : c ≤ 4) (p1 : o1 < 4) (p2 : c1 < 4) (p3 : M' 1 1 = nI o1) (p4 : M' 1 2 = nI (c1 + 1)) (p5 : c < 4 → o1 = o ∧ c1 = c) (p6 : c = 4 → o1 = (o + 1) % 4 ∧ c1 = 3) (p7 : cA M' (hb o1 c1) = cA M 16) (p8 : ∀ j, 7 ≤ j → j < 12 → M' (hb o1 c1) j = M 16 j) (p9 : ∀ k, k ≠ 1 → (k < hb o1 c1 ∨ hb o1 c1 + 8 ≤ k) → M' k = M k) : RC M' (oRec s) ∧ frC M M' ∧ M' 16 = M 16 ∧ (∀ k, 17 ≤ k → k < 24 → M' k = M k) ∧ (∀ k, 3 ≤ k → k ≤ 8 → M' k = M k) := by
  have hb32 : 32 ≤ hb o1 c1 := by unfold hb; omega
  obtain ⟨h1, h2, ⟨o', c', h3, h4, h5, h6, h7⟩, n, h8, h9, h10⟩ := h
  have eo : o' = o := (nI_eq (by omega) (by omega)).mp (h5.symm.trans ho)
  have ec : c' = c := (nI_eq (by omega) (by omega)).mp (h6.symm.trans hc)
  subst eo
  subst ec
  have e16 : stC M' 16 = stC M 16 := stC_fr (fun k a b => p9 k (by omega) (by omega))
  have enew : stC M' (hb o1 c1) = stC M 16 := stC_eq p7 p8
  refine ⟨⟨by rw [e16]; exact h1, ?_, ⟨o1, c1 + 1, p1, by omega, p3, p4, ?_⟩, n, h8, ?_, ?_⟩, fun k a b => p9 k (by omega) (by omega), p9 16 (by omega) (by omega), fun k a b => p9 k (by omega) (by omega), fun k a b => p9 k (by omega) (by omega)⟩
  · show (M' 0 4 = 0 ∧ s.2.1 = none) ∨ (M' 0 4 = 1 ∧ s.2.1 = some (stC M' 24))
    rw [p9 0 (by omega) (by omega), stC_fr (M := M) (M' := M') (b := 24) (fun k a b => p9 k (by omega) (by omega))]
    exact h2
  · show (s.1 :: s.2.2.1).take 4 = _
    rw [range_map_succ, h7, ← h1]
    rw [show c1 + 1 - 1 - 0 = c1 by omega, enew]
    rw [List.take_succ_cons]
    congr 1
    rcases Nat.lt_or_ge c' 4 with q | q
    · obtain ⟨rfl, rfl⟩ := p5 q
      rw [List.take_of_length_le (by simp; omega)]
      refine List.map_congr_left (fun k hk => ?_)
      have hk := List.mem_range.mp hk
      rw [show c1 + 1 - 1 - (k + 1) = c1 - 1 - k by omega]
      have hap := hb_ap (o := o1) (i := c1 - 1 - k) (j := c1) (by omega)
      exact (stC_fr (fun z a b => p9 z (by unfold hb at a; omega) (by omega))).symm
    · obtain rfl : c' = 4 := by omega
      obtain ⟨rfl, rfl⟩ := p6 rfl
      rw [← List.map_take, List.take_range]
      rw [show min 3 4 = 3 from rfl]
      refine List.map_congr_left (fun k hk => ?_)
      have hk := List.mem_range.mp hk
      have ea : hb ((o' + 1) % 4) (3 + 1 - 1 - (k + 1)) = hb o' (4 - 1 - k) := by unfold hb; omega
      rw [ea]
      have hap : hb o' (4 - 1 - k) + 8 ≤ hb ((o' + 1) % 4) 3 ∨ hb ((o' + 1) % 4) 3 + 8 ≤ hb o' (4 - 1 - k) := by
        unfold hb
        omega
      exact (stC_fr (fun z a b => p9 z (by unfold hb at a; omega) (by omega))).symm
  · rw [p9 3 (by omega) (by omega)]
    exact h9
  · rw [p9 4 (by omega) (by omega)]
    exact h10
theorem xMetV.imp {U : xP} {mi : xMI} {av : List xV} {M : xM} {post post' : xM → Prop} (h : xMetV U mi av M post) (hi : ∀ M', post M' → post' M') : xMetV U mi av M post' := by
  intro p e ha hc hk s m args below hf happ hP hK
  obtain ⟨n, o, h1, h2, h3, ⟨⟨⟨M', q1, q2, q3⟩, q4⟩, q5⟩⟩ := h p e ha hc hk s m args below hf happ hP hK
  exact ⟨n, o, h1, h2, h3, ⟨⟨⟨M', q1, hi M' q2, q3⟩, q4⟩, q5⟩⟩
theorem xMetI.imp {U : xP} {mi : xMI} {av : List xV} {M : xM} {post post' : Int32 → xM → Prop} (h : xMetI U mi av M post) (hi : ∀ r M', post r M' → post' r M') : xMetI U mi av M post' := by
  intro p e ha hc hk s m args below hf happ hP hK
  obtain ⟨n, o, h1, h2, h3, ⟨⟨⟨r, M', q1, q2, q3⟩, q4⟩, q5⟩⟩ := h p e ha hc hk s m args below hf happ hP hK
  exact ⟨n, o, h1, h2, h3, ⟨⟨⟨r, M', q1, hi r M' q2, q3⟩, q4⟩, q5⟩⟩
/-- record, as the object's cells show it -/
theorem k_rec (U : xP) (M : xM) {s : aO} (h : RC M s) : xMetV U mX0_record [.inr 1, .inr 16] M (fun M' => RC M' (oRec s) ∧ frC M M' ∧ M' 16 = M 16 ∧ (∀ k, 17 ≤ k → k < 24 → M' k = M k) ∧ (∀ k, 3 ≤ k → k ≤ 8 → M' k = M k)) := by
  obtain ⟨o, c, h3, h4, h5, h6, -⟩ := h.2.2.1
  refine (k_record U M h5 h6 h3 h4).imp (fun M' hp => ?_)
  obtain ⟨o1, c1, p1, p2, p3, p4, p5, p6, p7, p8, p9⟩ := hp
  exact h.rec h5 h6 h3 h4 p1 p2 p3 p4 p5 p6 p7 p8 p9
theorem RC.rows {M : xM} {s : aO} (h : RC M s) : cA M 16 = s.1.1 := congrArg Prod.fst h.1
theorem RC.nums {M : xM} {s : aO} (h : RC M s) : sc (M 16) = s.1.2 := congrArg Prod.snd h.1
theorem RC.num {M : xM} {s : aO} (h : RC M s) {j : Nat} (hj : j < 5) : M 16 (7 + j) = s.1.2 j := by
  rw [← h.nums]
  simp [sc, hj]
theorem sc_7 (g : Nat → Int32) (x : Int32) : sc (upd g 7 x) = upd (sc g) 0 x := sc_upd g (j := 0) (by decide) x
theorem sc_8 (g : Nat → Int32) (x : Int32) : sc (upd g 8 x) = upd (sc g) 1 x := sc_upd g (j := 1) (by decide) x
theorem sc_9 (g : Nat → Int32) (x : Int32) : sc (upd g 9 x) = upd (sc g) 2 x := sc_upd g (j := 2) (by decide) x
theorem sc_10 (g : Nat → Int32) (x : Int32) : sc (upd g 10 x) = upd (sc g) 3 x := sc_upd g (j := 3) (by decide) x
theorem sc_11 (g : Nat → Int32) (x : Int32) : sc (upd g 11 x) = upd (sc g) 4 x := sc_upd g (j := 4) (by decide) x
