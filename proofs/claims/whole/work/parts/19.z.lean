/-! Rows on which the seconds rest: a state that has them alike has them alike. -/
def Alk (S S' : Nat → Nat → Nat) : Prop := S' 0 0 = S 0 0 ∧ S' 0 1 = S 0 1 ∧ S' 2 = S 2 ∧ S' 3 = S 3 ∧ S' 4 = S 4 ∧ S' 5 = S 5 ∧ S' 6 = S 6 ∧ S' 7 = S 7 ∧ S' 8 = S 8 ∧ S' 9 = S 9 ∧ S' 10 = S 10
theorem sAt_S {S S' : Nat → Nat → Nat} (h : Alk S S') : sAt S' = sAt S := by
  obtain ⟨-, -, -, -, -, -, -, h7, -, h9, -⟩ := h
  funext o r p
  unfold sAt
  rw [h7, h9]
theorem sBh_S {S S' : Nat → Nat → Nat} (h : Alk S S') : sBh S' = sBh S := by
  have h1 := sAt_S h
  obtain ⟨-, -, h2, -, -, -, -, -, h8, -⟩ := h
  funext o r p
  unfold sBh
  rw [h1, h2, h8]
theorem rlx_S {S S' : Nat → Nat → Nat} (h : Alk S S') : rlx S' = rlx S := by
  have h1 := sBh_S h
  obtain ⟨-, -, -, -, -, -, -, -, h8, -⟩ := h
  funext o r p
  unfold rlx
  rw [h1, h8]
theorem rnd_S {S S' : Nat → Nat → Nat} (h : Alk S S') (o : Nat → Bool) (r : Nat → Nat) : ∀ k, rnd S' o r k = rnd S o r k
  | 0 => rfl
  | k + 1 => by
    show rlx S' o (rnd S' o r k) k = rlx S o (rnd S o r k) k
    rw [rnd_S h o r k, rlx_S h]
theorem itr_S {S S' : Nat → Nat → Nat} (h : Alk S S') (o : Nat → Bool) (r : Nat → Nat) : ∀ k, itr S' o r k = itr S o r k
  | 0 => rfl
  | k + 1 => by
    show rnd S' o (itr S' o r k) (S' 0 1) = rnd S o (itr S o r k) (S 0 1)
    rw [itr_S h o r k, rnd_S h, h.2.1]
theorem rs_S {S S' : Nat → Nat → Nat} (h : Alk S S') : rs S' = rs S := by
  obtain ⟨h0, -, -, -, h4, -⟩ := h
  funext a old e
  unfold rs src0 mvL
  rw [h0, h4]
theorem opn_S {S S' : Nat → Nat → Nat} (h : Alk S S') : opn S' = opn S := by
  obtain ⟨-, -, -, h3, h4, h5, h6, -, h8, -, h10⟩ := h
  funext w hh p
  unfold opn mvE
  rw [h3, h4, h5, h6, h8, h10]
theorem lpB_S {S S' : Nat → Nat → Nat} (h : Alk S S') (o : Nat → Bool) (r : Nat → Nat) (t : Nat) : ∀ n, lpB S' o r t n = lpB S o r t n
  | 0 => rfl
  | n + 1 => by
    unfold lpB
    rw [lpB_S h o r t n, sAt_S h, h.2.2.2.2.2.2.2.2.1]
theorem fin_S {S S' : Nat → Nat → Nat} (h : Alk S S') : fin S' = fin S := by
  funext o a
  unfold fin
  rw [itr_S h, rs_S h]
theorem secs_S {S S' : Nat → Nat → Nat} (h : Alk S S') : secs S' = secs S := by
  funext w hh a t
  unfold secs sTo
  rw [lpB_S h, fin_S h, opn_S h, h.2.1]
theorem Alk_tb {S : Nat → Nat → Nat} {i v w : Nat} : Alk S (up2 (up2 S 13 i v) 0 5 w) := ⟨rfl, rfl, rfl, rfl, rfl, rfl, rfl, rfl, rfl, rfl, rfl⟩
