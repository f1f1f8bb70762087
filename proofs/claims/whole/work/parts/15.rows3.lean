/-! more rows and words for the reference's readers -/
theorem rI_inj {a b : Nat} (ha : a < 2 ^ 31) (hb : b < 2 ^ 31) : rI a = rI b ↔ a = b := by
  refine ⟨fun h => ?_, fun h => by rw [h]⟩
  by_cases qa : a = 1000000
  · subst qa
    rw [rI_none] at h
    exact ((rI_p0 hb).mp h.symm).symm
  · by_cases qb : b = 1000000
    · subst qb
      rw [rI_none] at h
      exact (rI_p0 ha).mp h
    · rw [rI_some qa, rI_some qb] at h
      exact (nI_eq ha hb).mp h
section NR3
variable {p : Program} {l : Launch} {e : Env} {R : Room} {s : State} {m : MethodId} {args : Array Value} {below : List Frame} {meth : Method} {c : Code} {H : Heap} {locs : List Loc} {cells slots : Nat} {Q : State → Prop}
variable {cc : ByteArray} {pc : Nat} {ls : Array Slot} {rest : List Value}
theorem nzz_icmp_eq (hexec : p.tables.exec = Jvm.exec) (hb : c.code = cc) {x y : Nat} {off : Int} {tgt : Nat} (hx : x < 2 ^ 31) (hy : y < 2 ^ 31) (hdg : decode cc pc = .ok (.if_icmp .eq off, 3)) (ht : (pc : Int) + off = (tgt : Int))
    (kt : x = y → W p l e R s m args below meth c H locs cells slots Q (F0 m tgt ls rest)) (kf : x ≠ y → W p l e R s m args below meth c H locs cells slots Q (F0 m (pc + 3) ls rest)) : W p l e R s m args below meth c H locs cells slots Q (F0 m pc ls (.int (rI y) :: .int (rI x) :: rest)) :=
  lv_icmp_eq hexec hb hdg ht (fun h => kt ((rI_inj hx hy).mp h)) (fun h => kf (fun q => h ((rI_inj hx hy).mpr q)))
theorem nzz_icmp_ne (hexec : p.tables.exec = Jvm.exec) (hb : c.code = cc) {x y : Nat} {off : Int} {tgt : Nat} (hx : x < 2 ^ 31) (hy : y < 2 ^ 31) (hdg : decode cc pc = .ok (.if_icmp .ne off, 3)) (ht : (pc : Int) + off = (tgt : Int))
    (kt : x ≠ y → W p l e R s m args below meth c H locs cells slots Q (F0 m tgt ls rest)) (kf : x = y → W p l e R s m args below meth c H locs cells slots Q (F0 m (pc + 3) ls rest)) : W p l e R s m args below meth c H locs cells slots Q (F0 m pc ls (.int (rI y) :: .int (rI x) :: rest)) :=
  lv_icmp_ne hexec hb hdg ht (fun h => kt (fun q => h ((rI_inj hx hy).mpr q))) (fun h => kf ((rI_inj hx hy).mp h))
end NR3
/-- a join's two passages -/
def Jn (S : Nat → Nat → Nat) : Prop := S 0 1 % 2 = 0 ∧ ∀ j, S 7 (2 * j + 1) = S 8 (2 * j) ∧ S 8 (2 * j + 1) = S 7 (2 * j) ∧ S 9 (2 * j + 1) = S 9 (2 * j)
/-- what is reached is small, or none -/
def Rb (r : Nat → Nat) : Prop := ∀ e, r e = 1000000 ∨ r e ≤ 50000
def inR (a b : Int) (x : Int32) : Bool := decide (a ≤ x.toInt ∧ x.toInt ≤ b)
theorem inR_t {a b : Int} {x : Int32} (h : a ≤ x.toInt) (h2 : x.toInt ≤ b) : inR a b x = true := decide_eq_true ⟨h, h2⟩
theorem inR_f {a b : Int} {x : Int32} (h : ¬ (a ≤ x.toInt ∧ x.toInt ≤ b)) : inR a b x = false := decide_eq_false h
theorem inR_iff {a b : Int} {x : Int32} : inR a b x = true ↔ a ≤ x.toInt ∧ x.toInt ≤ b := decide_eq_true_iff
theorem opn_def (S : Nat → Nat → Nat) (w h p : Nat) : opn S w h p = (decide (S 10 p = 0) && mvE S w h (S 8 p)) := rfl
theorem bars_bit {a b d : Nat} (ha : a ≤ 1) (hb : b ≤ 1) (hd : d < 2) : (a + 2 * b) / 2 ^ d % 2 = if d = 0 then a else b := by
  rcases (show d = 0 ∨ d = 1 by omega) with rfl | rfl
  · simp; omega
  · simp; omega
theorem sAt_none {S : Nat → Nat → Nat} {o : Nat → Bool} {r : Nat → Nat} {p : Nat} (h : ¬ (o p = true ∧ r (S 7 p) ≠ 1000000)) : sAt S o r p = 1000000 := if_neg h
theorem sAt_some {S : Nat → Nat → Nat} {o : Nat → Bool} {r : Nat → Nat} {p : Nat} (h : o p = true) (h2 : r (S 7 p) ≠ 1000000) : sAt S o r p = r (S 7 p) + S 9 p := if_pos ⟨h, h2⟩
theorem sBh_none {S : Nat → Nat → Nat} {o : Nat → Bool} {r : Nat → Nat} {p : Nat} (h : sAt S o r p = 1000000) : sBh S o r p = 1000000 := if_pos h
theorem sBh_some {S : Nat → Nat → Nat} {o : Nat → Bool} {r : Nat → Nat} {p : Nat} (h : sAt S o r p ≠ 1000000) : sBh S o r p = sAt S o r p + S 2 (S 8 p / 2) := if_neg h
/-- the end from which 'to' is come into at second t: one more, 0: none -/
def lEn (S : Nat → Nat → Nat) (o : Nat → Bool) (r : Nat → Nat) (to t n : Nat) : Nat := ff (fun p => decide (S 8 p / 2 = to ∧ sAt S o r p = t ∧ sAt S o r p ≠ 1000000)) n
def bEn (S : Nat → Nat → Nat) (o : Nat → Bool) (r : Nat → Nat) (e n : Nat) : Nat := ff (fun p => decide (S 8 p = fl e ∧ sBh S o r p = r e)) n
def atS (S : Nat → Nat → Nat) (f : Nat) : Nat := if f = 0 then 0 else S 7 (f - 1) + 1
theorem atS_y {S : Nat → Nat → Nat} (f : Nat) : atS S (f + 1) = S 7 f + 1 := rfl
theorem bN_pos {b : Bool} (h : 0 < bN b) : b = true := by
  cases b
  · exact absurd h (by decide)
  · rfl
theorem bN_zero {b : Bool} (h : bN b = 0) : b = false := by
  cases b
  · rfl
  · exact absurd h (by decide)
/-- a robot, two pieces, an hour -/
def isD (S : Nat → Nat → Nat) (x0 x1 x2 x3 : Int32) : Bool := inR 0 ((S 0 2 : Int) - 1) x0 && inR 0 ((S 0 0 : Int) - 1) x1 && inR 0 ((S 0 0 : Int) - 1) x2 && inR 0 23 x3
theorem isD_t {S : Nat → Nat → Nat} {x0 x1 x2 x3 : Int32} (hb : S 0 2 ≤ 6) (h0 : 0 < bN (inR (nI 0).toInt (pI (S 0 2)).toInt x0)) (h1 : 0 < bN (inR 0 ((S 0 0 : Int) - 1) x1)) (h2 : 0 < bN (inR 0 ((S 0 0 : Int) - 1) x2)) (h3 : 0 < bN (inR (nI 0).toInt (nI 23).toInt x3)) : nI 1 = nI (bN (isD S x0 x1 x2 x3)) := by
  rw [pI_toInt (by omega)] at h0
  have e0 : inR 0 ((S 0 2 : Int) - 1) x0 = true := bN_pos h0
  have e3 : inR 0 23 x3 = true := bN_pos h3
  exact bN1 (by rw [isD, e0, bN_pos h1, bN_pos h2, e3]; rfl)
theorem isD_f {S : Nat → Nat → Nat} {x0 x1 x2 x3 : Int32} (hb : S 0 2 ≤ 6) (h : bN (inR (nI 0).toInt (pI (S 0 2)).toInt x0) = 0 ∨ bN (inR 0 ((S 0 0 : Int) - 1) x1) = 0 ∨ bN (inR 0 ((S 0 0 : Int) - 1) x2) = 0 ∨ bN (inR (nI 0).toInt (nI 23).toInt x3) = 0) : nI 0 = nI (bN (isD S x0 x1 x2 x3)) := by
  refine bN0 ?_
  unfold isD
  rcases h with h | h | h | h
  · rw [pI_toInt (by omega)] at h
    have e0 : inR 0 ((S 0 2 : Int) - 1) x0 = false := bN_zero h
    rw [e0]; rfl
  · rw [bN_zero h]; simp
  · rw [bN_zero h]; simp
  · have e3 : inR 0 23 x3 = false := bN_zero h
    rw [e3]; simp
theorem lpB2_n {S : Nat → Nat → Nat} {o : Nat → Bool} {r : Nat → Nat} {t n y : Nat} (h : (lpB S o r t n).2 = y) (h1 : ¬ (S 8 n / 2 = t ∧ sAt S o r n < y)) : (lpB S o r t (n + 1)).2 = y := by
  subst h
  rw [lpB_n rfl h1]
theorem lpB2_y {S : Nat → Nat → Nat} {o : Nat → Bool} {r : Nat → Nat} {t n y x : Nat} (h : (lpB S o r t n).2 = y) (h1 : S 8 n / 2 = t) (h2 : sAt S o r n < y) (h3 : sAt S o r n = x) : (lpB S o r t (n + 1)).2 = x := by
  subst h
  rw [lpB_y rfl h1 h2]
  exact h3
theorem Jn.nine {S : Nat → Nat → Nat} (h : Jn S) (j d : Nat) (hd : d < 2) : S 9 (2 * j + d) = S 9 (2 * j) := by
  rcases (show d = 0 ∨ d = 1 by omega) with rfl | rfl
  · rfl
  · exact (h.2 j).2.2
theorem bN_no {b : Bool} (h : bN b = 0) : ¬ b = true := by rw [bN_zero h]; decide
theorem Rb.le {r : Nat → Nat} (h : Rb r) (e : Nat) : r e ≤ 1000000 := by
  have := h e
  omega
theorem sBh_b {S : Nat → Nat → Nat} {o : Nat → Bool} {r : Nat → Nat} (h9 : ∀ p, S 9 p ≤ 100) (h2 : ∀ i, S 2 i ≤ 1000) (hr : Rb r) (p : Nat) : sBh S o r p = 1000000 ∨ sBh S o r p ≤ 51100 := by
  have h1 := h9 p
  have h3 := h2 (S 8 p / 2)
  have h4 := hr (S 7 p)
  by_cases q : sAt S o r p = 1000000
  · exact Or.inl (sBh_none q)
  · rw [sBh_some q]
    by_cases z : o p = true ∧ r (S 7 p) ≠ 1000000
    · rw [sAt_some z.1 z.2]
      omega
    · exact absurd (sAt_none z) q
