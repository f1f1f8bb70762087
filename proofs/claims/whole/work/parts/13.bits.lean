/-! Rows of bits over numbers. -/
theorem na_s31 : ∀ n, n < 32 → ((nI n &&& 31).toBitVec.smod 32).toNat = n := by decide
theorem na_shr {x h : Nat} (hx : x < 2 ^ 31) (hh : h < 32) : nI x >>> (nI h &&& 31) = nI (x / 2 ^ h) := pk_shrN hx _ h (na_s31 h hh)
theorem na_and1 {x : Nat} (hx : x < 2 ^ 31) : nI x &&& nI 1 = nI (x % 2) := by
  have h := pk_andN (n := x) (show x < 2 ^ 32 by omega) (m := nI 1) 1 (by decide)
  exact h
theorem na_xor1 : ∀ x, x < 80 → nI x ^^^ nI 1 = nI (fl x) := by decide
theorem nar_b : ∀ v, v ≤ 1 → narrow .boolean (.int (nI v)) = .int (nI v) := by
  intro v hv
  rcases (show v = 0 ∨ v = 1 by omega) with rfl | rfl <;> rfl
theorem fl_lt {x n : Nat} (h : x < 2 * n) : fl x < 2 * n := by
  unfold fl
  split <;> omega
theorem fl_div (x : Nat) : fl x / 2 = x / 2 := by
  unfold fl
  split <;> omega
section NB
variable {p : Program} {l : Launch} {e : Env} {R : Room} {s : State} {m : MethodId} {args : Array Value} {below : List Frame} {meth : Method} {c : Code} {H : Heap} {locs : List Loc} {cells slots : Nat} {Q : State → Prop}
variable {cc : ByteArray} {pc : Nat} {ls : Array Slot} {rest : List Value}
theorem na_ishr (hexec : p.tables.exec = Jvm.exec) (hb : c.code = cc) {x h : Nat} (hx : x < 2 ^ 31) (hh : h < 32) (hdg : decode cc pc = .ok (.ishr, 1)) (k : W p l e R s m args below meth c H locs cells slots Q (F0 m (pc + 1) ls (.int (nI (x / 2 ^ h)) :: rest))) : W p l e R s m args below meth c H locs cells slots Q (F0 m pc ls (.int (nI h) :: .int (nI x) :: rest)) :=
  lv_ishr hexec hb hdg (na_as (na_shr hx hh) k)
theorem na_iand1 (hexec : p.tables.exec = Jvm.exec) (hb : c.code = cc) {x : Nat} (hx : x < 2 ^ 31) (hdg : decode cc pc = .ok (.iand, 1)) (k : W p l e R s m args below meth c H locs cells slots Q (F0 m (pc + 1) ls (.int (nI (x % 2)) :: rest))) : W p l e R s m args below meth c H locs cells slots Q (F0 m pc ls (.int (nI 1) :: .int (nI x) :: rest)) :=
  lv_iand hexec hb hdg (na_as (na_and1 hx) k)
theorem na_ixor1 (hexec : p.tables.exec = Jvm.exec) (hb : c.code = cc) {x : Nat} (hx : x < 80) (hdg : decode cc pc = .ok (.ixor, 1)) (k : W p l e R s m args below meth c H locs cells slots Q (F0 m (pc + 1) ls (.int (nI (fl x)) :: rest))) : W p l e R s m args below meth c H locs cells slots Q (F0 m pc ls (.int (nI 1) :: .int (nI x) :: rest)) :=
  lv_ixor hexec hb hdg (na_as (na_xor1 x hx) k)
end NB
/-- a sum over n places from a -/
def sm (f : Nat → Nat) (a : Nat) : Nat → Nat
  | 0 => 0
  | n + 1 => sm f a n + f (a + n)
theorem sm_le {f : Nat → Nat} {a : Nat} (h : ∀ i, f i ≤ 1) : ∀ n, sm f a n ≤ n
  | 0 => Nat.le_refl _
  | n + 1 => by
    have h1 := sm_le (a := a) h n
    have h2 := h (a + n)
    unfold sm
    omega
theorem sm_step {f : Nat → Nat} {a i : Nat} (h : a ≤ i) : sm f a (i + 1 - a) = sm f a (i - a) + f i := by
  rw [show i + 1 - a = (i - a) + 1 by omega]
  show sm f a (i - a) + f (a + (i - a)) = _
  rw [show a + (i - a) = i by omega]
theorem bN1 {b : Bool} (h : b = true) : nI 1 = nI (bN b) := by rw [h]; rfl
theorem bN0 {b : Bool} (h : b = false) : nI 0 = nI (bN b) := by rw [h]; rfl
