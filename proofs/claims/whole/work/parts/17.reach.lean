/-! What is reached from a piece. -/
theorem bN_lt (b : Bool) : bN b < 2 ^ 31 := by have := bN_le b; omega
def src0 (S : Nat → Nat → Nat) (a e : Nat) : Bool := decide (e / 2 = a) && mvL S e
/-- at first: the first piece's ends by which it may be left; what lies above is as it was -/
def rs (S : Nat → Nat → Nat) (a : Nat) (old : Nat → Nat) : Nat → Nat := fun e => if e < 2 * S 0 0 then (if src0 S a e = true then 0 else 1000000) else old e
theorem rs_A {S Z : Nat → Nat → Nat} {a : Nat} (ha : a < S 0 0) (h4 : S 4 a ≤ 1) : (S 4 a = 0 → up1 (fun j => if j < 2 * S 0 0 then 1000000 else Z 1 j) (2 * a + 1) 0 = rs S a (Z 1)) ∧ (0 < S 4 a → up1 (up1 (fun j => if j < 2 * S 0 0 then 1000000 else Z 1 j) (2 * a + 1) 0) (2 * a) 0 = rs S a (Z 1)) := by
  refine ⟨fun h => ?_, fun h => ?_⟩
  · funext j
    unfold up1 rs
    by_cases q : j = 2 * a + 1
    · subst q
      rw [if_pos rfl, if_pos (by omega), if_pos]
      unfold src0 mvL
      rw [decide_eq_true (by omega), decide_eq_true (by omega)]
      rfl
    · rw [if_neg q]
      dsimp only
      by_cases z : j < 2 * S 0 0
      · rw [if_pos z, if_pos z, if_neg]
        intro w
        unfold src0 mvL at w
        simp at w
        obtain ⟨w1, w2⟩ := w
        rw [w1] at w2
        omega
      · rw [if_neg z, if_neg z]
  · funext j
    unfold up1 rs
    by_cases q : j = 2 * a + 1
    · subst q
      rw [if_neg (by omega), if_pos rfl, if_pos (by omega), if_pos]
      unfold src0 mvL
      rw [decide_eq_true (by omega), decide_eq_true (by omega)]
      rfl
    · by_cases y : j = 2 * a
      · subst y
        rw [if_pos rfl, if_pos (by omega), if_pos]
        unfold src0 mvL
        rw [show 2 * a / 2 = a by omega, decide_eq_true rfl, decide_eq_true (show S 4 a = 1 by omega)]
        simp
      · rw [if_neg y, if_neg q]
        dsimp only
        by_cases z : j < 2 * S 0 0
        · rw [if_pos z, if_pos z, if_neg]
          intro w
          unfold src0 mvL at w
          simp at w
          omega
        · rw [if_neg z, if_neg z]
theorem fillA_s (Z : Nat → Nat → Nat) (f i v : Nat) : up2 (upR Z f (fun j => if j < i then v else Z f j)) f i v = upR Z f (fun j => if j < i + 1 then v else Z f j) := by
  rw [up2, upR_upR, upR_same]
  refine congrArg (upR Z f) (funext fun j => ?_)
  unfold up1
  by_cases q : j = i
  · rw [if_pos q, if_pos (by omega)]
  · rw [if_neg q]
    dsimp only
    by_cases z : j < i
    · rw [if_pos z, if_pos (by omega)]
    · rw [if_neg z, if_neg (by omega)]
theorem fillA_0 (Z : Nat → Nat → Nat) (f v : Nat) : Z = upR Z f (fun j => if j < 0 then v else Z f j) := by
  have : (fun j => if j < 0 then v else Z f j) = Z f := funext fun j => if_neg (Nat.not_lt_zero _)
  rw [this, upR_id]
def Okr (S : Nat → Nat → Nat) (o : Nat → Bool) (N : Nat) (src : Nat → Bool) (r : Nat → Nat) : Prop := Gd S o N src r ∧ Rb r
theorem rlx_out {S : Nat → Nat → Nat} {o : Nat → Bool} {N : Nat} {r : Nat → Nat} {p e : Nat} (hG : Gr S N) (hp : p < S 0 1) (he : N ≤ e) : rlx S o r p e = r e := by
  have := (hG.2 p hp).2.1
  unfold rlx
  split
  · exact up1_ne _ _ (by omega)
  · rfl
theorem Okr.rlx {S : Nat → Nat → Nat} {o : Nat → Bool} {N : Nat} {src : Nat → Bool} {r : Nat → Nat} {p : Nat} (hG : Gr S N) (hp : p < S 0 1) (h : Okr S o N src r) : Okr S o N src (rlx S o r p) := by
  have h1 := rlx_Gd hG hp h.1
  refine ⟨h1, fun e => ?_⟩
  by_cases q : e < N
  · have := h1.sm hG.1 q
    omega
  · rw [rlx_out hG hp (by omega)]
    exact h.2 e
theorem Okr.rnd {S : Nat → Nat → Nat} {o : Nat → Bool} {N : Nat} {src : Nat → Bool} {r : Nat → Nat} (hG : Gr S N) (h : Okr S o N src r) : ∀ k, k ≤ S 0 1 → Okr S o N src (rnd S o r k)
  | 0, _ => h
  | k + 1, hk => Okr.rlx hG (by omega) (Okr.rnd hG h k (by omega))
theorem Okr.itr {S : Nat → Nat → Nat} {o : Nat → Bool} {N : Nat} {src : Nat → Bool} {r : Nat → Nat} (hG : Gr S N) (h : Okr S o N src r) : ∀ n, Okr S o N src (itr S o r n)
  | 0 => h
  | n + 1 => Okr.rnd hG (Okr.itr hG h n) _ (Nat.le_refl _)
theorem rs_Okr {S : Nat → Nat → Nat} {o : Nat → Bool} {a : Nat} {old : Nat → Nat} (h : Rb old) : Okr S o (2 * S 0 0) (src0 S a) (rs S a old) := by
  refine ⟨⟨fun e he => ?_, fun e he => ?_⟩, fun e => ?_⟩
  · unfold rs
    rw [if_pos he]
    split
    · right; omega
    · left; rfl
  · unfold rs
    rw [if_pos he]
    split
    · rename_i q
      exact Or.inr (Or.inl ⟨rfl, q⟩)
    · left; rfl
  · unfold rs
    split
    · split
      · right; omega
      · left; rfl
    · exact h e
theorem src0_1 {S : Nat → Nat → Nat} {a : Nat} : src0 S a (2 * a + 1) = true := by
  unfold src0 mvL
  rw [decide_eq_true (show (2 * a + 1) / 2 = a by omega), decide_eq_true (show (2 * a + 1) % 2 = 1 by omega)]
  rfl
/-- the rounds from a piece: they rest after forty -/
theorem rs_40 {S : Nat → Nat → Nat} {o : Nat → Bool} {a : Nat} {old : Nat → Nat} (hG : Gr S (2 * S 0 0)) (h : Rb old) (ha : a < S 0 0) (n : Nat) (hn : chg S o (itr S o (rs S a old) n) (S 0 1) = true) : n < 40 := by
  refine itr_40 hG (rs_Okr (o := o) (a := a) h).1 (fun e he hs => ?_) ⟨2 * a + 1, by omega, ?_⟩ n hn
  · unfold rs
    rw [if_pos he, if_pos hs]
  · unfold rs
    rw [if_pos (by omega), if_pos src0_1]
theorem rs_fin {S : Nat → Nat → Nat} {o : Nat → Bool} {a : Nat} {old : Nat → Nat} (hG : Gr S (2 * S 0 0)) (h : Rb old) (ha : a < S 0 0) (n : Nat) (hn : n < 40 → chg S o (itr S o (rs S a old) n) (S 0 1) = false) : itr S o (rs S a old) n = itr S o (rs S a old) 40 := by
  have h40 : chg S o (itr S o (rs S a old) 40) (S 0 1) = false := by
    cases q : chg S o (itr S o (rs S a old) 40) (S 0 1) with
    | false => rfl
    | true => exact absurd (rs_40 hG h ha 40 q) (by omega)
  by_cases z : n < 40
  · have := itr_rest (hn z) (40 - n)
    rw [show n + (40 - n) = 40 by omega] at this
    exact this.symm
  · have := itr_rest h40 (n - 40)
    rw [show 40 + (n - 40) = n by omega] at this
    exact this
theorem chg_s (S : Nat → Nat → Nat) (o : Nat → Bool) (r : Nat → Nat) (k : Nat) : chg S o r (k + 1) = (chg S o r k || decide (sBh S o (rnd S o r k) k < rnd S o r k (fl (S 8 k)))) := rfl
theorem chg_y {S : Nat → Nat → Nat} {o : Nat → Bool} {r : Nat → Nat} {k : Nat} (h : 0 < bN (decide (sBh S o (rnd S o r k) k < rnd S o r k (fl (S 8 k))))) : 1 = bN (chg S o r (k + 1)) := by
  rw [chg_s, bN_pos h, Bool.or_true]
  rfl
theorem chg_o {S : Nat → Nat → Nat} {o : Nat → Bool} {r : Nat → Nat} {k f : Nat} (hf : f = bN (chg S o r k)) (h : 0 < f) : 1 = bN (chg S o r (k + 1)) := by
  rw [hf] at h
  rw [chg_s, bN_pos h]
  rfl
theorem chg_z {S : Nat → Nat → Nat} {o : Nat → Bool} {r : Nat → Nat} {k f : Nat} (hf : f = bN (chg S o r k)) (h : f = 0) (h2 : bN (decide (sBh S o (rnd S o r k) k < rnd S o r k (fl (S 8 k)))) = 0) : 0 = bN (chg S o r (k + 1)) := by
  rw [hf] at h
  rw [chg_s, bN_zero h, bN_zero h2]
  rfl
theorem chg_c {S : Nat → Nat → Nat} {o : Nat → Bool} {r : Nat → Nat} (h : chg S o r (S 0 1) = false) : chg S o (rnd S o r (S 0 1)) (S 0 1) = false := by rw [chg_f _ h]; exact h
theorem chg_d {S : Nat → Nat → Nat} {o : Nat → Bool} {r : Nat → Nat} {f t : Nat} (h : chg S o r (S 0 1) = true → t < 40) (hf : f = bN (chg S o r (S 0 1))) : f = 1 ∧ t + 1 ≤ 40 ∨ f = 0 ∧ chg S o (rnd S o r (S 0 1)) (S 0 1) = false := by
  cases q : chg S o r (S 0 1) with
  | true =>
    left
    rw [q] at hf
    exact ⟨hf, h q⟩
  | false =>
    right
    rw [q] at hf
    exact ⟨hf, chg_c q⟩
