/-! What each call does to S, answers, and how it is refused (code), in words of numbers; raw ints by toInt. -/
theorem in_t {a b : Nat} {x : Int32} (ha : a < 2 ^ 31) (hb : b < 2 ^ 31) (h : 0 < bN (inR (nI a).toInt (nI b).toInt x)) : (a : Int) ≤ x.toInt ∧ x.toInt ≤ (b : Int) := by
  have := inR_iff.mp (bN_pos h)
  rw [nI_toInt ha, nI_toInt hb] at this
  exact this
theorem in_f {a b : Nat} {x : Int32} (ha : a < 2 ^ 31) (hb : b < 2 ^ 31) (h : bN (inR (nI a).toInt (nI b).toInt x) = 0) : ¬ ((a : Int) ≤ x.toInt ∧ x.toInt ≤ (b : Int)) := by
  have h1 := bN_no h
  rw [inR_iff, nI_toInt ha, nI_toInt hb] at h1
  exact h1
theorem inp_t {n : Nat} {x : Int32} (hn : n < 2 ^ 31) (h : 0 < bN (inR (nI 0).toInt (pI n).toInt x)) : 0 ≤ x.toInt ∧ x.toInt < (n : Int) := by
  have := inR_iff.mp (bN_pos h)
  rw [nI_toInt (by decide), pI_toInt hn] at this
  omega
theorem inp_f {n : Nat} {x : Int32} (hn : n < 2 ^ 31) (h : bN (inR (nI 0).toInt (pI n).toInt x) = 0) : ¬ (0 ≤ x.toInt ∧ x.toInt < (n : Int)) := by
  have h1 := bN_no h
  rw [inR_iff, nI_toInt (by decide), pI_toInt hn] at h1
  omega
theorem isp_t {n : Nat} {x : Int32} (h : 0 < bN (inR 0 ((n : Int) - 1) x)) : 0 ≤ x.toInt ∧ x.toInt < (n : Int) := by
  have := inR_iff.mp (bN_pos h)
  omega
theorem isp_f {n : Nat} {x : Int32} (h : bN (inR 0 ((n : Int) - 1) x) = 0) : ¬ (0 ≤ x.toInt ∧ x.toInt < (n : Int)) := by
  have h1 := bN_no h
  rw [inR_iff] at h1
  omega
theorem up2_comm {S : Nat → Nat → Nat} {f g i j v w : Nat} (h : ¬ (f = g ∧ i = j)) : up2 (up2 S f i v) g j w = up2 (up2 S g j w) f i v := by
  funext a b
  unfold up2 upR up1
  by_cases h1 : a = g <;> by_cases h2 : a = f
  · subst h1
    subst h2
    simp only [if_true]
    by_cases h3 : b = j <;> by_cases h4 : b = i
    · exact absurd ⟨rfl, h4.symm.trans h3⟩ h
    · simp [h3, h4]
      intro q
      omega
    · simp [h3, h4]
      intro q
      omega
    · simp [h3, h4]
  · subst h1
    simp [h2]
  · subst h2
    simp [h1]
  · simp [h1, h2]
def isPc (S : Nat → Nat → Nat) (x : Int32) : Prop := 0 ≤ x.toInt ∧ x.toInt < (S 0 0 : Int)
theorem isPc.lt {S : Nat → Nat → Nat} {x : Int32} (h : isPc S x) : iN x < S 0 0 := by
  have := iN_toInt h.1
  have := h.2
  omega
-- piece
def okP (x0 x1 : Int32) : Prop := 0 ≤ x0.toInt ∧ x0.toInt ≤ 9 ∧ 1 ≤ x1.toInt ∧ x1.toInt ≤ 1000
noncomputable def cd2 (ok : Prop) (full : Prop) : Nat := by
  classical
  exact if ok then (if full then 2 else 0) else 1
theorem cd2_1 {ok full : Prop} (h : ¬ ok) : cd2 ok full = 1 := by unfold cd2; exact if_neg h
theorem cd2_2 {ok full : Prop} (h : ok) (h2 : full) : cd2 ok full = 2 := by unfold cd2; rw [if_pos h, if_pos h2]
theorem cd2_0 {ok full : Prop} (h : ok) (h2 : ¬ full) : cd2 ok full = 0 := by unfold cd2; rw [if_pos h, if_neg h2]
noncomputable def cd1 (ok : Prop) : Nat := cd2 ok False
theorem cd1_1 {ok : Prop} (h : ¬ ok) : cd1 ok = 1 := cd2_1 h
theorem cd1_0 {ok : Prop} (h : ok) : cd1 ok = 0 := cd2_0 h (fun q => q)
/-- the state behind a call: the new one where it was taken, else the old one -/
def nS (cd : Nat) (S S' : Nat → Nat → Nat) : Nat → Nat → Nat := if cd = 0 then S' else S
theorem nS_0 {cd : Nat} {S S' : Nat → Nat → Nat} (h : cd = 0) : nS cd S S' = S' := if_pos h
theorem nS_n {cd : Nat} {S S' : Nat → Nat → Nat} (h : cd ≠ 0) : nS cd S S' = S := if_neg h
def addP (S : Nat → Nat → Nat) (l t b : Nat) : Nat → Nat → Nat := up2 (up2 (up2 (up2 (up2 (up2 S 1 (S 0 0) l) 2 (S 0 0) t) 3 (S 0 0) 100) 4 (S 0 0) b) 0 0 (S 0 0 + 1)) 0 4 (S 0 4 + 1)
noncomputable def cdP (S : Nat → Nat → Nat) (x0 x1 : Int32) : Nat := cd2 (okP x0 x1) (S 0 0 = 20)
-- join, lift
def okJ (S : Nat → Nat → Nat) (x0 x1 x2 x3 x4 : Int32) : Prop := isPc S x0 ∧ isPc S x2 ∧ (0 ≤ x1.toInt ∧ x1.toInt ≤ 1) ∧ (0 ≤ x3.toInt ∧ x3.toInt ≤ 1) ∧ x0.toInt ≠ x2.toInt ∧ (0 ≤ x4.toInt ∧ x4.toInt ≤ 100) ∧ S 1 (iN x0) = S 1 (iN x2)
def okL (S : Nat → Nat → Nat) (x0 x1 x2 : Int32) : Prop := isPc S x0 ∧ isPc S x1 ∧ (0 ≤ x2.toInt ∧ x2.toInt ≤ 100) ∧ S 1 (iN x0) ≠ S 1 (iN x1)
noncomputable def cdJ (S : Nat → Nat → Nat) (x0 x1 x2 x3 x4 : Int32) : Nat := cd2 (okJ S x0 x1 x2 x3 x4) (S 0 1 = 80)
noncomputable def cdL (S : Nat → Nat → Nat) (x0 x1 x2 : Int32) : Nat := cd2 (okL S x0 x1 x2) (S 0 1 = 80)
/-- one passage more -/
def addA (S : Nat → Nat → Nat) (a b t : Nat) : Nat → Nat → Nat := up2 (up2 (up2 (up2 S 7 (S 0 1) a) 8 (S 0 1) b) 9 (S 0 1) t) 0 1 (S 0 1 + 1)
def addJ (S : Nat → Nat → Nat) (a b t : Nat) : Nat → Nat → Nat := up2 (addA (addA S a b t) b a t) 0 4 (S 0 4 + 1)
-- turn, width, zone, closed
def okT (S : Nat → Nat → Nat) (x0 x1 : Int32) : Prop := (0 ≤ x0.toInt ∧ x0.toInt < ((S 0 1 / 2 : Nat) : Int)) ∧ 0 ≤ x1.toInt ∧ x1.toInt ≤ 1
def tuS (S : Nat → Nat → Nat) (p b : Nat) : Nat → Nat → Nat := up2 (up2 S 10 p b) 0 4 (S 0 4 + 1)
def okW (S : Nat → Nat → Nat) (x0 x1 : Int32) : Prop := isPc S x0 ∧ 1 ≤ x1.toInt ∧ x1.toInt ≤ 500
def wiS (S : Nat → Nat → Nat) (p w : Nat) : Nat → Nat → Nat := up2 (up2 S 3 p w) 0 4 (S 0 4 + 1)
def okZ (S : Nat → Nat → Nat) (x0 x1 : Int32) : Prop := isPc S x0 ∧ 0 ≤ x1.toInt ∧ x1.toInt ≤ 23
/-- a set of hours with one more, or without it -/
def wbI (v k : Nat) (b : Bool) : Int32 := if b = true then nI v ||| (nI 1 <<< (nI k &&& 31)) else nI v &&& ((nI 1 <<< (nI k &&& 31)) ^^^ pI 0)
def wb (v k : Nat) (b : Bool) : Nat := iN (wbI v k b)
def zoS (S : Nat → Nat → Nat) (p h : Nat) (b : Bool) : Nat → Nat → Nat := up2 (up2 S 6 p (wb (S 6 p) h b)) 0 4 (S 0 4 + 1)
def pop (v : Nat) : Nat := sm (fun k => v / 2 ^ k % 2) 0 24
def clS (S : Nat → Nat → Nat) (p b : Nat) : Nat → Nat → Nat := up2 (up2 S 5 p b) 0 4 (S 0 4 + 1)
-- robot, charger
def okR (x0 : Int32) : Prop := 1 ≤ x0.toInt ∧ x0.toInt ≤ 500
noncomputable def cdR (S : Nat → Nat → Nat) (x0 : Int32) : Nat := cd2 (okR x0) (S 0 2 = 6)
def fitsW (S : Nat → Nat → Nat) (w : Nat) : Bool := anyB (fun j => decide (w ≤ S 3 j)) (S 0 0)
def roS (S : Nat → Nat → Nat) (w : Nat) : Nat → Nat → Nat := if fitsW S w = true then up2 (up2 (up2 S 11 (S 0 2) w) 0 2 (S 0 2 + 1)) 0 4 (S 0 4 + 1) else S
def hasCh (S : Nat → Nat → Nat) (p : Nat) : Bool := anyB (fun j => decide (S 12 j = p)) (S 0 3)
noncomputable def cdC (S : Nat → Nat → Nat) (x0 : Int32) : Nat := by
  classical
  exact if isPc S x0 then (if hasCh S (iN x0) = true then 2 else if S 0 3 = 8 then 3 else 0) else 1
def chS (S : Nat → Nat → Nat) (p : Nat) : Nat → Nat → Nat := up2 (up2 (up2 S 12 (S 0 3) p) 0 3 (S 0 3 + 1)) 0 4 (S 0 4 + 1)
-- step, count
def stepR (S : Nat → Nat → Nat) (x : Int32) : Nat := if 0 ≤ x.toInt ∧ x.toInt < (S 0 6 : Int) then S 14 (S 0 6 - 1 - iN x) + 1 else 0
def cntR (S : Nat → Nat → Nat) (x : Int32) : Nat := if x.toInt = 0 then S 0 0 + 1 else if x.toInt = 1 then S 0 1 / 2 + 1 else if x.toInt = 2 then S 0 2 + 1 else if x.toInt = 3 then S 0 3 + 1 else if x.toInt = 4 then sm (S 10) 0 (S 0 1) + 1 else 0
