/-! Words of the system's own way of walking back. -/
theorem pBf_S {S S' : Nat → Nat → Nat} (h : Alk S S') : pBf S' = pBf S := by
  funext o r e
  unfold pBf
  rw [sBh_S h, h.2.2.2.2.2.2.2.2.1, h.2.1]
theorem Alk_14 {S X : Nat → Nat → Nat} {A : Nat → Nat} (h : X = upR S 14 A) : Alk S X := by
  subst h
  exact ⟨rfl, rfl, rfl, rfl, rfl, rfl, rfl, rfl, rfl, rfl, rfl⟩
theorem Bd_R {S X : Nat → Nat → Nat} {A : Nat → Nat} (h : X = upR S 14 A) (hB : Bd S) (hA : ∀ i, A i < 20) : Bd X := by
  subst h
  obtain ⟨b0, b5, b6, b7, b8⟩ := hB
  exact ⟨b0, b5, b6, b7, fun i => ⟨(b8 i).1, (b8 i).2.1, hA i⟩⟩
theorem up14 {S X : Nat → Nat → Nat} {A : Nat → Nat} {n v : Nat} (h : X = upR S 14 A) : up2 X 14 n v = upR S 14 (up1 A n v) := by
  subst h
  rw [up2, upR_upR, upR_same]
/-- at the head of trace's loop -/
def TrI (S : Nat → Nat → Nat) (o : Nat → Bool) (r : Nat → Nat) (t x : Nat) (W0 : (Nat → Nat) × Nat) (b n : Nat) (A : Nat → Nat) : Prop :=
  (0 < b → b ≤ S 0 1 ∧ Ck S r t x n (S 7 (b - 1)) ∧ wChn S o r (42 - n) A n (S 7 (b - 1)) = W0) ∧ (b = 0 → (A, n) = W0)
theorem TrI_next {S : Nat → Nat → Nat} {o : Nat → Bool} {r : Nat → Nat} {a t : Nat} {W0 : (Nat → Nat) × Nat} {b n : Nat} {A : Nat → Nat} (hW : Gw S) (hF : Fx S o a r) (hat : a ≠ t) (ht : t < S 0 0) (hx : (lpB S o r t (S 0 1)).2 < 1000000) (h : TrI S o r t (lpB S o r t (S 0 1)).2 W0 b n A) (hb : 0 < b) : TrI S o r t (lpB S o r t (S 0 1)).2 W0 (pBf S o r (S 7 (b - 1))) (n + 1) (up1 A n (S 7 (b - 1) / 2)) := by
  obtain ⟨h1, h2, h3⟩ := h.1 hb
  have hn := Ck_lt hW ht h2
  by_cases z : r (S 7 (b - 1)) = 0
  · have hp : pBf S o r (S 7 (b - 1)) = 0 := if_pos z
    rw [hp]
    refine ⟨fun q => absurd q (by omega), fun _ => ?_⟩
    rw [← h3, wChn_0 (by omega) z]
  · have hp := Fx_pre hW hF h2.1 h2.2.1 z
    refine ⟨fun _ => ⟨hp.2.1, Ck_next hW hF hat h2 z hx, ?_⟩, fun q => absurd q (by omega)⟩
    rw [← h3, wChn_s (f := 42 - n) (by omega) z]
    rfl
theorem pBf_le {S : Nat → Nat → Nat} {o : Nat → Bool} {r : Nat → Nat} {e : Nat} : pBf S o r e ≤ S 0 1 := by
  unfold pBf
  split
  · omega
  · exact (ff_ok _).1
/-- a piece more, but for the count of changes -/
def addQ (S : Nat → Nat → Nat) (l t b : Nat) : Nat → Nat → Nat := up2 (up2 (up2 (up2 (up2 S 1 (S 0 0) l) 2 (S 0 0) t) 3 (S 0 0) 100) 4 (S 0 0) b) 0 0 (S 0 0 + 1)
/-- one passage more that leaves a -/
def lv1 (S Z : Nat → Nat → Nat) (a : Nat) : Nat → Nat → Nat := up2 (up2 Z (10 + a) (Z 3 a) (S 0 1)) 3 a (Z 3 a + 1)
def lv2 (S Z : Nat → Nat → Nat) (a b t : Nat) : Nat → Nat → Nat := lv1 (addA S a b t) (lv1 S Z a) b
