/-! -1 among numbers: pI v = v - 1 (0: none), rI v (1000000: none); raw ints by their toInt. -/
theorem pI_s (n : Nat) : nI n = pI (n + 1) := by
  unfold pI
  rw [nI_succ]
  simp
theorem pI_toInt {n : Nat} (h : n < 2 ^ 31) : (pI n).toInt = (n : Int) - 1 := by
  rcases Nat.eq_zero_or_pos n with h0 | h0
  · subst h0
    decide
  · obtain ⟨j, rfl⟩ : ∃ j, n = j + 1 := ⟨n - 1, by omega⟩
    rw [← pI_s, nI_toInt (by omega)]
    omega
theorem pI_inj {a b : Nat} (ha : a < 2 ^ 31) (hb : b < 2 ^ 31) : pI a = pI b ↔ a = b := by
  refine ⟨fun h => ?_, fun h => by rw [h]⟩
  have h1 := pI_toInt ha
  rw [h, pI_toInt hb] at h1
  omega
theorem pI_pos {b : Nat} (h : 0 < b) : pI b = nI (b - 1) := by
  obtain ⟨j, rfl⟩ : ∃ j, b = j + 1 := ⟨b - 1, by omega⟩
  rw [← pI_s]
  rfl
theorem pI_0 : pI 0 = -1 := by decide
theorem rI_none : rI 1000000 = pI 0 := by decide
theorem rI_some {v : Nat} (h : v ≠ 1000000) : rI v = nI v := if_neg h
theorem rI_p0 {v : Nat} (h : v < 2 ^ 31) : rI v = pI 0 ↔ v = 1000000 := by
  refine ⟨fun e => ?_, fun e => by rw [e]; exact rI_none⟩
  refine Classical.byContradiction fun q => ?_
  rw [rI_some q] at e
  have h1 := nI_toInt h
  rw [e, pI_toInt (by decide)] at h1
  omega
theorem zI_0 : zI 0 = pI 0 := by decide
theorem zI_pos {v : Nat} (h : 0 < v) : zI v = nI v := if_neg (by omega)
def iN (x : Int32) : Nat := x.toInt.toNat
theorem iN_lt (x : Int32) : iN x < 2 ^ 31 := by
  have := x.toInt_lt
  unfold iN
  omega
theorem iN_toInt {x : Int32} (h : 0 ≤ x.toInt) : (iN x : Int) = x.toInt := by
  unfold iN
  omega
theorem iN_eq {x : Int32} (h : 0 ≤ x.toInt) : x = nI (iN x) := by
  apply Int32.toInt_inj.mp
  rw [nI_toInt (iN_lt x), iN_toInt h]
theorem raw_nI {x : Int32} {n : Nat} (h0 : 0 ≤ x.toInt) (h : x.toInt < (n : Int)) : ∃ j : Nat, j < n ∧ x = nI j := ⟨iN x, by have := iN_toInt h0; omega, iN_eq h0⟩
theorem raw_ri {x : Int32} {a b : Nat} (h0 : (a : Int) ≤ x.toInt) (h : x.toInt ≤ (b : Int)) : ∃ j : Nat, a ≤ j ∧ j ≤ b ∧ x = nI j := ⟨iN x, by have := iN_toInt (x := x) (by omega); omega, by have := iN_toInt (x := x) (by omega); omega, iN_eq (by omega)⟩
section NR
variable {p : Program} {l : Launch} {e : Env} {R : Room} {s : State} {m : MethodId} {args : Array Value} {below : List Frame} {meth : Method} {c : Code} {H : Heap} {locs : List Loc} {cells slots : Nat} {Q : State → Prop}
variable {cc : ByteArray} {pc : Nat} {ls : Array Slot} {rest : List Value}
theorem nr_icmp_lt (hexec : p.tables.exec = Jvm.exec) (hb : c.code = cc) {x y : Int32} {off : Int} {tgt : Nat} (hdg : decode cc pc = .ok (.if_icmp .lt off, 3)) (ht : (pc : Int) + off = (tgt : Int))
    (kt : x.toInt < y.toInt → W p l e R s m args below meth c H locs cells slots Q (F0 m tgt ls rest)) (kf : y.toInt ≤ x.toInt → W p l e R s m args below meth c H locs cells slots Q (F0 m (pc + 3) ls rest)) : W p l e R s m args below meth c H locs cells slots Q (F0 m pc ls (.int y :: .int x :: rest)) :=
  lv_icmp_lt hexec hb hdg ht (fun h => kt (Int32.lt_iff_toInt_lt.mp h)) (fun h => kf (Int.not_lt.mp fun q => h (Int32.lt_iff_toInt_lt.mpr q)))
theorem nr_icmp_ge (hexec : p.tables.exec = Jvm.exec) (hb : c.code = cc) {x y : Int32} {off : Int} {tgt : Nat} (hdg : decode cc pc = .ok (.if_icmp .ge off, 3)) (ht : (pc : Int) + off = (tgt : Int))
    (kt : y.toInt ≤ x.toInt → W p l e R s m args below meth c H locs cells slots Q (F0 m tgt ls rest)) (kf : x.toInt < y.toInt → W p l e R s m args below meth c H locs cells slots Q (F0 m (pc + 3) ls rest)) : W p l e R s m args below meth c H locs cells slots Q (F0 m pc ls (.int y :: .int x :: rest)) :=
  lv_icmp_ge hexec hb hdg ht (fun h => kt (Int32.le_iff_toInt_le.mp h)) (fun h => kf (Int.not_le.mp fun q => h (Int32.le_iff_toInt_le.mpr q)))
theorem nr_icmp_gt (hexec : p.tables.exec = Jvm.exec) (hb : c.code = cc) {x y : Int32} {off : Int} {tgt : Nat} (hdg : decode cc pc = .ok (.if_icmp .gt off, 3)) (ht : (pc : Int) + off = (tgt : Int))
    (kt : y.toInt < x.toInt → W p l e R s m args below meth c H locs cells slots Q (F0 m tgt ls rest)) (kf : x.toInt ≤ y.toInt → W p l e R s m args below meth c H locs cells slots Q (F0 m (pc + 3) ls rest)) : W p l e R s m args below meth c H locs cells slots Q (F0 m pc ls (.int y :: .int x :: rest)) :=
  lv_icmp_gt hexec hb hdg ht (fun h => kt (Int32.lt_iff_toInt_lt.mp h)) (fun h => kf (Int.not_lt.mp fun q => h (Int32.lt_iff_toInt_lt.mpr q)))
theorem nr_icmp_le (hexec : p.tables.exec = Jvm.exec) (hb : c.code = cc) {x y : Int32} {off : Int} {tgt : Nat} (hdg : decode cc pc = .ok (.if_icmp .le off, 3)) (ht : (pc : Int) + off = (tgt : Int))
    (kt : x.toInt ≤ y.toInt → W p l e R s m args below meth c H locs cells slots Q (F0 m tgt ls rest)) (kf : y.toInt < x.toInt → W p l e R s m args below meth c H locs cells slots Q (F0 m (pc + 3) ls rest)) : W p l e R s m args below meth c H locs cells slots Q (F0 m pc ls (.int y :: .int x :: rest)) :=
  lv_icmp_le hexec hb hdg ht (fun h => kt (Int32.le_iff_toInt_le.mp h)) (fun h => kf (Int.not_le.mp fun q => h (Int32.le_iff_toInt_le.mpr q)))
theorem nr_icmp_eq (hexec : p.tables.exec = Jvm.exec) (hb : c.code = cc) {x y : Int32} {off : Int} {tgt : Nat} (hdg : decode cc pc = .ok (.if_icmp .eq off, 3)) (ht : (pc : Int) + off = (tgt : Int))
    (kt : x.toInt = y.toInt → W p l e R s m args below meth c H locs cells slots Q (F0 m tgt ls rest)) (kf : x.toInt ≠ y.toInt → W p l e R s m args below meth c H locs cells slots Q (F0 m (pc + 3) ls rest)) : W p l e R s m args below meth c H locs cells slots Q (F0 m pc ls (.int y :: .int x :: rest)) :=
  lv_icmp_eq hexec hb hdg ht (fun h => kt (by rw [h])) (fun h => kf (fun q => h (Int32.toInt_inj.mp q)))
theorem nr_icmp_ne (hexec : p.tables.exec = Jvm.exec) (hb : c.code = cc) {x y : Int32} {off : Int} {tgt : Nat} (hdg : decode cc pc = .ok (.if_icmp .ne off, 3)) (ht : (pc : Int) + off = (tgt : Int))
    (kt : x.toInt ≠ y.toInt → W p l e R s m args below meth c H locs cells slots Q (F0 m tgt ls rest)) (kf : x.toInt = y.toInt → W p l e R s m args below meth c H locs cells slots Q (F0 m (pc + 3) ls rest)) : W p l e R s m args below meth c H locs cells slots Q (F0 m pc ls (.int y :: .int x :: rest)) :=
  lv_icmp_ne hexec hb hdg ht (fun h => kt (fun q => h (Int32.toInt_inj.mp q))) (fun h => kf (by rw [h]))
theorem nr_if_lt (hexec : p.tables.exec = Jvm.exec) (hb : c.code = cc) {x : Int32} {off : Int} {tgt : Nat} (hdg : decode cc pc = .ok (.ifCond .lt off, 3)) (ht : (pc : Int) + off = (tgt : Int))
    (kt : x.toInt < 0 → W p l e R s m args below meth c H locs cells slots Q (F0 m tgt ls rest)) (kf : 0 ≤ x.toInt → W p l e R s m args below meth c H locs cells slots Q (F0 m (pc + 3) ls rest)) : W p l e R s m args below meth c H locs cells slots Q (F0 m pc ls (.int x :: rest)) :=
  lv_if_lt hexec hb hdg ht (fun h => kt (by have := Int32.lt_iff_toInt_lt.mp h; rwa [Int32.toInt_zero] at this)) (fun h => kf (Int.not_lt.mp fun q => h (Int32.lt_iff_toInt_lt.mpr (by rwa [Int32.toInt_zero]))))
theorem nr_if_ge (hexec : p.tables.exec = Jvm.exec) (hb : c.code = cc) {x : Int32} {off : Int} {tgt : Nat} (hdg : decode cc pc = .ok (.ifCond .ge off, 3)) (ht : (pc : Int) + off = (tgt : Int))
    (kt : 0 ≤ x.toInt → W p l e R s m args below meth c H locs cells slots Q (F0 m tgt ls rest)) (kf : x.toInt < 0 → W p l e R s m args below meth c H locs cells slots Q (F0 m (pc + 3) ls rest)) : W p l e R s m args below meth c H locs cells slots Q (F0 m pc ls (.int x :: rest)) :=
  lv_if_ge hexec hb hdg ht (fun h => kt (by have := Int32.le_iff_toInt_le.mp h; rwa [Int32.toInt_zero] at this)) (fun h => kf (Int.not_le.mp fun q => h (Int32.le_iff_toInt_le.mpr (by rwa [Int32.toInt_zero]))))
theorem nr_if_eq (hexec : p.tables.exec = Jvm.exec) (hb : c.code = cc) {x : Int32} {off : Int} {tgt : Nat} (hdg : decode cc pc = .ok (.ifCond .eq off, 3)) (ht : (pc : Int) + off = (tgt : Int))
    (kt : x.toInt = 0 → W p l e R s m args below meth c H locs cells slots Q (F0 m tgt ls rest)) (kf : x.toInt ≠ 0 → W p l e R s m args below meth c H locs cells slots Q (F0 m (pc + 3) ls rest)) : W p l e R s m args below meth c H locs cells slots Q (F0 m pc ls (.int x :: rest)) :=
  lv_if_eq hexec hb hdg ht (fun h => kt (by rw [h]; rfl)) (fun h => kf (fun q => h (Int32.toInt_inj.mp (by rw [q]; rfl))))
theorem nr_if_ne (hexec : p.tables.exec = Jvm.exec) (hb : c.code = cc) {x : Int32} {off : Int} {tgt : Nat} (hdg : decode cc pc = .ok (.ifCond .ne off, 3)) (ht : (pc : Int) + off = (tgt : Int))
    (kt : x.toInt ≠ 0 → W p l e R s m args below meth c H locs cells slots Q (F0 m tgt ls rest)) (kf : x.toInt = 0 → W p l e R s m args below meth c H locs cells slots Q (F0 m (pc + 3) ls rest)) : W p l e R s m args below meth c H locs cells slots Q (F0 m pc ls (.int x :: rest)) :=
  lv_if_ne hexec hb hdg ht (fun h => kt (fun q => h (Int32.toInt_inj.mp (by rw [q]; rfl)))) (fun h => kf (by rw [h]; rfl))
theorem np_icmp_eq (hexec : p.tables.exec = Jvm.exec) (hb : c.code = cc) {x y : Nat} {off : Int} {tgt : Nat} (hx : x < 2 ^ 31) (hy : y < 2 ^ 31) (hdg : decode cc pc = .ok (.if_icmp .eq off, 3)) (ht : (pc : Int) + off = (tgt : Int))
    (kt : x = y → W p l e R s m args below meth c H locs cells slots Q (F0 m tgt ls rest)) (kf : x ≠ y → W p l e R s m args below meth c H locs cells slots Q (F0 m (pc + 3) ls rest)) : W p l e R s m args below meth c H locs cells slots Q (F0 m pc ls (.int (pI y) :: .int (pI x) :: rest)) :=
  lv_icmp_eq hexec hb hdg ht (fun h => kt ((pI_inj hx hy).mp h)) (fun h => kf (fun q => h ((pI_inj hx hy).mpr q)))
theorem np_icmp_ne (hexec : p.tables.exec = Jvm.exec) (hb : c.code = cc) {x y : Nat} {off : Int} {tgt : Nat} (hx : x < 2 ^ 31) (hy : y < 2 ^ 31) (hdg : decode cc pc = .ok (.if_icmp .ne off, 3)) (ht : (pc : Int) + off = (tgt : Int))
    (kt : x ≠ y → W p l e R s m args below meth c H locs cells slots Q (F0 m tgt ls rest)) (kf : x = y → W p l e R s m args below meth c H locs cells slots Q (F0 m (pc + 3) ls rest)) : W p l e R s m args below meth c H locs cells slots Q (F0 m pc ls (.int (pI y) :: .int (pI x) :: rest)) :=
  lv_icmp_ne hexec hb hdg ht (fun h => kt (fun q => h ((pI_inj hx hy).mpr q))) (fun h => kf ((pI_inj hx hy).mp h))
theorem nz_icmp_eq (hexec : p.tables.exec = Jvm.exec) (hb : c.code = cc) {x : Nat} {off : Int} {tgt : Nat} (hx : x < 2 ^ 31) (hdg : decode cc pc = .ok (.if_icmp .eq off, 3)) (ht : (pc : Int) + off = (tgt : Int))
    (kt : x = 1000000 → W p l e R s m args below meth c H locs cells slots Q (F0 m tgt ls rest)) (kf : x ≠ 1000000 → W p l e R s m args below meth c H locs cells slots Q (F0 m (pc + 3) ls rest)) : W p l e R s m args below meth c H locs cells slots Q (F0 m pc ls (.int (pI 0) :: .int (rI x) :: rest)) :=
  lv_icmp_eq hexec hb hdg ht (fun h => kt ((rI_p0 hx).mp h)) (fun h => kf (fun q => h ((rI_p0 hx).mpr q)))
theorem nz_icmp_ne (hexec : p.tables.exec = Jvm.exec) (hb : c.code = cc) {x : Nat} {off : Int} {tgt : Nat} (hx : x < 2 ^ 31) (hdg : decode cc pc = .ok (.if_icmp .ne off, 3)) (ht : (pc : Int) + off = (tgt : Int))
    (kt : x ≠ 1000000 → W p l e R s m args below meth c H locs cells slots Q (F0 m tgt ls rest)) (kf : x = 1000000 → W p l e R s m args below meth c H locs cells slots Q (F0 m (pc + 3) ls rest)) : W p l e R s m args below meth c H locs cells slots Q (F0 m pc ls (.int (pI 0) :: .int (rI x) :: rest)) :=
  lv_icmp_ne hexec hb hdg ht (fun h => kt (fun q => h ((rI_p0 hx).mpr q))) (fun h => kf ((rI_p0 hx).mp h))
end NR
/-! pure words of the readers -/
def anyB (f : Nat → Bool) : Nat → Bool
  | 0 => false
  | n + 1 => anyB f n || f n
theorem anyB_t {f : Nat → Bool} {i n : Nat} (h : f i = true) (hi : i < n) : anyB f n = true := by
  induction n with
  | zero => omega
  | succ n ih =>
    unfold anyB
    rcases Nat.lt_or_eq_of_le (Nat.le_of_lt_succ hi) with q | q
    · rw [ih q]; rfl
    · rw [← q, h]; simp
theorem anyB_s {f : Nat → Bool} {n : Nat} (h : anyB f n = false) (h2 : f n = false) : anyB f (n + 1) = false := by
  unfold anyB
  rw [h, h2]
  rfl
def oZ (Z : Nat → Nat → Nat) : Nat → Bool := fun p => decide (Z 0 p = 1)
theorem sAt_le {S : Nat → Nat → Nat} {o : Nat → Bool} {r : Nat → Nat} (h9 : ∀ p, S 9 p ≤ 100) (hr : ∀ e, r e ≤ 1000000) (p : Nat) : sAt S o r p ≤ 1000100 := by
  have h1 := h9 p
  have h2 := hr (S 7 p)
  unfold sAt
  split <;> omega
theorem sBh_le {S : Nat → Nat → Nat} {o : Nat → Bool} {r : Nat → Nat} (h9 : ∀ p, S 9 p ≤ 100) (h2 : ∀ i, S 2 i ≤ 1000) (hr : ∀ e, r e ≤ 1000000) (p : Nat) : sBh S o r p ≤ 1001100 := by
  have h1 := sAt_le h9 hr (o := o) p
  have h3 := h2 (S 8 p / 2)
  unfold sBh
  split <;> omega
/-- the passage by which 'to' is come into first, of the first n (0: none, else one more), and when -/
def lpB (S : Nat → Nat → Nat) (o : Nat → Bool) (r : Nat → Nat) (t : Nat) : Nat → Nat × Nat
  | 0 => (0, 1000000)
  | n + 1 => if S 8 n / 2 = t ∧ sAt S o r n < (lpB S o r t n).2 then (n + 1, sAt S o r n) else lpB S o r t n
theorem lpB_y {S : Nat → Nat → Nat} {o : Nat → Bool} {r : Nat → Nat} {t n b x : Nat} (h : lpB S o r t n = (b, x)) (h1 : S 8 n / 2 = t) (h2 : sAt S o r n < x) : lpB S o r t (n + 1) = (n + 1, sAt S o r n) := by
  unfold lpB
  rw [h]
  exact if_pos ⟨h1, h2⟩
theorem lpB_n {S : Nat → Nat → Nat} {o : Nat → Bool} {r : Nat → Nat} {t n b x : Nat} (h : lpB S o r t n = (b, x)) (h1 : ¬ (S 8 n / 2 = t ∧ sAt S o r n < x)) : lpB S o r t (n + 1) = (b, x) := by
  unfold lpB
  rw [h]
  exact if_neg h1
theorem lpB_ok {S : Nat → Nat → Nat} {o : Nat → Bool} {r : Nat → Nat} {t : Nat} : ∀ n, (lpB S o r t n).1 ≤ n ∧ (lpB S o r t n).2 ≤ 1000000 ∧ ((lpB S o r t n).1 = 0 → (lpB S o r t n).2 = 1000000) ∧ (0 < (lpB S o r t n).1 → (lpB S o r t n).2 = sAt S o r ((lpB S o r t n).1 - 1) ∧ (lpB S o r t n).2 < 1000000)
  | 0 => ⟨Nat.le_refl _, Nat.le_refl _, fun _ => rfl, fun h => absurd h (by simp [lpB])⟩
  | n + 1 => by
    have ih := lpB_ok (S := S) (o := o) (r := r) (t := t) n
    by_cases q : S 8 n / 2 = t ∧ sAt S o r n < (lpB S o r t n).2
    · rw [lpB_y rfl q.1 q.2]
      refine ⟨Nat.le_refl _, ?_, fun h => by simp at h, fun _ => ⟨rfl, ?_⟩⟩
      · have := q.2; have := ih.2.1; simp only; omega
      · have := q.2; have := ih.2.1; simp only; omega
    · rw [lpB_n rfl q]
      exact ⟨by have := ih.1; omega, ih.2⟩
/-- the seconds from one piece to another, 1000000 if there is no way -/
def sTo (S : Nat → Nat → Nat) (o : Nat → Bool) (r : Nat → Nat) (a t : Nat) : Nat := if a = t then 0 else (lpB S o r t (S 0 1)).2
theorem sTo_le {S : Nat → Nat → Nat} {o : Nat → Bool} {r : Nat → Nat} {a t : Nat} : sTo S o r a t ≤ 1000000 := by
  unfold sTo
  split
  · omega
  · exact (lpB_ok _).2.1
/-- the first of n that is P, one more; 0: none -/
def ff (P : Nat → Bool) : Nat → Nat
  | 0 => 0
  | n + 1 => if ff P n = 0 then (if P n = true then n + 1 else 0) else ff P n
theorem ff_s {P : Nat → Bool} {n : Nat} (h : ff P n = 0) (h2 : ¬ P n = true) : ff P (n + 1) = 0 := by
  unfold ff
  rw [if_pos h, if_neg h2]
theorem ff_y {P : Nat → Bool} {i : Nat} (h : ff P i = 0) (h2 : P i = true) : ∀ n, i < n → ff P n = i + 1
  | 0, q => absurd q (Nat.not_lt_zero _)
  | n + 1, q => by
    unfold ff
    rcases Nat.lt_or_eq_of_le (Nat.le_of_lt_succ q) with q | q
    · rw [ff_y h h2 n q]; exact if_neg (by omega)
    · rw [← q, if_pos h, if_pos h2]
theorem ff_ok {P : Nat → Bool} : ∀ n, ff P n ≤ n ∧ (0 < ff P n → P (ff P n - 1) = true)
  | 0 => ⟨Nat.le_refl _, fun h => absurd h (Nat.lt_irrefl _)⟩
  | n + 1 => by
    have ih := ff_ok (P := P) n
    unfold ff
    split
    · split
      · exact ⟨Nat.le_refl _, fun _ => by assumption⟩
      · exact ⟨Nat.zero_le _, fun h => absurd h (Nat.lt_irrefl _)⟩
    · exact ⟨by have := ih.1; omega, ih.2⟩
/-- the passage just before an end -/
def pBf (S : Nat → Nat → Nat) (o : Nat → Bool) (r : Nat → Nat) (e : Nat) : Nat := if r e = 0 then 0 else ff (fun p => decide (S 8 p = fl e ∧ sBh S o r p = r e)) (S 0 1)
