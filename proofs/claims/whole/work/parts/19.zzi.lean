/-! Ways that come to no piece twice, as the system counts them: by the passages that leave an end. -/
def cx (S : Nat → Nat → Nat) (o : Nat → Bool) (t : Nat) : Nat → (Nat → Nat) → Nat → Nat
  | 0, met, e => sm (fun p => if S 7 p = e then (if o p = true ∧ met (S 8 p / 2) = 0 then (if S 8 p / 2 = t then 1 else 0) else 0) else 0) 0 (S 0 1)
  | b + 1, met, e => sm (fun p => if S 7 p = e then (if o p = true ∧ met (S 8 p / 2) = 0 then (if S 8 p / 2 = t then 1 else cx S o t b (up1 met (S 8 p / 2) 1) (fl (S 8 p))) else 0) else 0) 0 (S 0 1)
def tm (S : Nat → Nat → Nat) (o : Nat → Bool) (t b : Nat) (met : Nat → Nat) (p : Nat) : Nat :=
  if o p = true ∧ met (S 8 p / 2) = 0 then (if S 8 p / 2 = t then 1 else (if b = 0 then 0 else cx S o t (b - 1) (up1 met (S 8 p / 2) 1) (fl (S 8 p)))) else 0
theorem cx_tm {S : Nat → Nat → Nat} {o : Nat → Bool} {t b : Nat} {met : Nat → Nat} {e : Nat} : cx S o t b met e = sm (fun p => if S 7 p = e then tm S o t b met p else 0) 0 (S 0 1) := by
  cases b with
  | zero => rfl
  | succ b => rfl
/-- the passages that leave an end are those of its row, in their order -/
def LV (S Z : Nat → Nat → Nat) : Prop := ∀ e, e < 40 → (∀ F : Nat → Nat, sm (fun i => F (Z (10 + e) i)) 0 (Z 3 e) = sm (fun p => if S 7 p = e then F p else 0) 0 (S 0 1)) ∧ (∀ i, i < Z 3 e → Z (10 + e) i < S 0 1) ∧ Z 3 e ≤ 40
theorem LV_up {S Z : Nat → Nat → Nat} {p v : Nat} (h : LV S Z) : LV S (up2 Z 2 p v) := by
  intro e he
  have h1 : up2 Z 2 p v (10 + e) = Z (10 + e) := by unfold up2; exact upR_ne _ _ (by omega)
  have h2 : up2 Z 2 p v 3 = Z 3 := rfl
  rw [h1, h2]
  exact h e he
theorem up2_id (S : Nat → Nat → Nat) (f i : Nat) : up2 S f i (S f i) = S := by rw [up2, up1_id, upR_id]
theorem up2_back {Z : Nat → Nat → Nat} {p : Nat} (h : Z 2 p = 0) : up2 (up2 Z 2 p 1) 2 p 0 = Z := by
  rw [up2_up2, ← h]
  exact up2_id Z 2 p
theorem sm_s (f : Nat → Nat) (n : Nat) : sm f 0 (n + 1) = sm f 0 n + f n := by
  show sm f 0 n + f (0 + n) = _
  rw [Nat.zero_add]
theorem tm_c {S : Nat → Nat → Nat} {o : Nat → Bool} {t b : Nat} {met : Nat → Nat} {p : Nat} (h : ¬ (o p = true ∧ met (S 8 p / 2) = 0)) : tm S o t b met p = 0 := if_neg h
theorem tm_1 {S : Nat → Nat → Nat} {o : Nat → Bool} {t b : Nat} {met : Nat → Nat} {p : Nat} (h : o p = true) (h2 : met (S 8 p / 2) = 0) (h3 : S 8 p / 2 = t) : tm S o t b met p = 1 := by unfold tm; rw [if_pos ⟨h, h2⟩, if_pos h3]
theorem tm_0 {S : Nat → Nat → Nat} {o : Nat → Bool} {t : Nat} {met : Nat → Nat} {p : Nat} (h3 : S 8 p / 2 ≠ t) : tm S o t 0 met p = 0 := by
  unfold tm
  rw [if_neg h3]
  split <;> rfl
theorem tm_s {S : Nat → Nat → Nat} {o : Nat → Bool} {t b : Nat} {met : Nat → Nat} {p : Nat} (h : o p = true) (h2 : met (S 8 p / 2) = 0) (h3 : S 8 p / 2 ≠ t) : tm S o t (b + 1) met p = cx S o t b (up1 met (S 8 p / 2) 1) (fl (S 8 p)) := by
  unfold tm
  rw [if_pos ⟨h, h2⟩, if_neg h3]
  rfl
def KWays (l : Launch) (b : Nat) : Prop := ∀ (D : va_G) (q : Nat → Nat) (k : Nat → ClassId) (r : Nat → Nat) (S Z : Nat → Nat → Nat) (sz e0 t0 : Nat), Bd S → (∀ p, Z 0 p ≤ 1) → (∀ p, Z 2 p ≤ 1) → LV S Z → e0 < 40 → t0 < 20 → Met l yX0_waysOn wsX0_waysOn ({ frames := b, cells := 0, slots := 0, locals := 29 * b } : Room) (va_Pc [.ref (q 2), .ref (q 1), .int (nI e0), .int (nI t0), .int (nI b)] (wB D k (wC q k r S Z) sz)) (va_Qi (fun (r : Int32) (u : (Nat → Nat → Nat) × (Nat → Nat → Nat)) => r = nI (cx S (oZ Z) t0 b (Z 2) e0) ∧ u.1 = S ∧ u.2 = Z) (fun u t => wE D (va_A (wC q k r S Z) sz) (wC q k r u.1 u.2) t) (va_A (wC q k r S Z) sz)) 0 0 (va_A (wC q k r S Z) sz)
