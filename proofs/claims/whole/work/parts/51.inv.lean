/-! What is kept of the state between calls, by every call. -/
theorem up1_all {P : Nat → Prop} {A : Nat → Nat} {p v : Nat} (h : ∀ i, P (A i)) (hv : P v) (i : Nat) : P (up1 A p v i) := by
  unfold up1
  split
  · exact hv
  · exact h i
def IV (T : Nat) (S : Nat → Nat → Nat) : Prop := Inv T S ∧ ∀ i, S 12 i < 20
theorem IV.Bd {T : Nat} {S : Nat → Nat → Nat} (h : IV T S) : Bd S := by
  obtain ⟨⟨⟨a0, a1, a2, a3, a4, a5, a6, a7, a8⟩, b5, c5, d5, e5, f5, g5, h5, i5, j5⟩, x5⟩ := h
  exact ⟨⟨a0, a1, a3, a4, a7⟩, b5, d5, fun p hp => by have := e5 p hp; omega, fun i => ⟨g5 i, x5 i, j5 i⟩⟩
theorem IV.Jn {T : Nat} {S : Nat → Nat → Nat} (h : IV T S) : Jn S := ⟨h.1.1.2.2.1, h.1.2.2.2.2.2.1⟩
theorem IV.Gw {T : Nat} {S : Nat → Nat → Nat} (h : IV T S) : Gw S := by
  obtain ⟨⟨⟨a0, a1, a2, a3, a4, a5, a6, a7, a8⟩, b5, c5, d5, e5, f5, g5, h5, i5, j5⟩, x5⟩ := h
  refine ⟨⟨by omega, fun p hp => ?_⟩, fun p hp => ?_⟩
  · have h1 := e5 p hp
    have h2 := fl_lt h1.2.1
    have h3 := fl_div (S 8 p)
    have h4 := c5 (S 8 p / 2) (by omega)
    have h5 := (b5 (S 8 p / 2)).2.1
    have h6 := (d5 p).1
    refine ⟨h1.1, h2, fun q => ?_, ?_, ?_, h6⟩
    · rw [← q] at h3
      exact h1.2.2 h3
    · unfold wt; omega
    · unfold wt; omega
  · have h1 := e5 p hp
    exact ⟨c5 _ (by omega), h1.2.2⟩
theorem IV.Gr {T : Nat} {S : Nat → Nat → Nat} (h : IV T S) : Gr S (2 * S 0 0) := h.Gw.1
theorem IV.mono {T U : Nat} {S : Nat → Nat → Nat} (h : IV T S) (hT : T ≤ U) : IV U S := by
  obtain ⟨⟨⟨a0, a1, a2, a3, a4, a5, a6, a7, a8⟩, r5⟩, x5⟩ := h
  exact ⟨⟨⟨a0, a1, a2, a3, a4, by omega, by omega, a7, a8⟩, r5⟩, x5⟩
theorem IV_P {T : Nat} {S : Nat → Nat → Nat} {l t b : Nat} (h : IV T S) (hm : S 0 0 < 20) (hl : l ≤ 9) (ht : 1 ≤ t) (ht2 : t ≤ 1000) (hb : b ≤ 1) : IV (T + 1) (addP S l t b) := by
  obtain ⟨⟨⟨a0, a1, a2, a3, a4, a5, a6, a7, a8⟩, b5, c5, d5, e5, f5, g5, h5, i5, j5⟩, x5⟩ := h
  refine ⟨⟨⟨hm, a1, a2, a3, a4, Nat.succ_le_succ a5, Nat.le_succ_of_le a6, a7, fun _ => Nat.succ_pos _⟩, fun i => ?_, fun i hi => ?_, d5, fun p hp => ?_, f5, g5, fun i hi => Nat.lt_succ_of_lt (h5 i hi), fun i => Nat.le_succ_of_le (i5 i), j5⟩, x5⟩
  · show up1 (S 1) (S 0 0) l i ≤ 9 ∧ up1 (S 2) (S 0 0) t i ≤ 1000 ∧ up1 (S 3) (S 0 0) 100 i ≤ 500 ∧ up1 (S 4) (S 0 0) b i ≤ 1 ∧ S 5 i ≤ 1 ∧ S 6 i < 2 ^ 24
    exact ⟨up1_all (P := fun z => z ≤ 9) (fun i => (b5 i).1) hl i, up1_all (P := fun z => z ≤ 1000) (fun i => (b5 i).2.1) ht2 i, up1_all (P := fun z => z ≤ 500) (fun i => (b5 i).2.2.1) (by decide) i, up1_all (P := fun z => z ≤ 1) (fun i => (b5 i).2.2.2.1) hb i, (b5 i).2.2.2.2⟩
  · show 1 ≤ up1 (S 2) (S 0 0) t i
    have hi : i < S 0 0 + 1 := hi
    unfold up1
    split
    · exact ht
    · exact c5 i (by omega)
  · have h1 := e5 p hp
    show S 7 p < 2 * (S 0 0 + 1) ∧ S 8 p < 2 * (S 0 0 + 1) ∧ S 7 p / 2 ≠ S 8 p / 2
    omega
theorem IV_J {T : Nat} {S : Nat → Nat → Nat} {a b t : Nat} (h : IV T S) (hm : S 0 1 < 80) (ha : a < 2 * S 0 0) (hb : b < 2 * S 0 0) (hab : a / 2 ≠ b / 2) (ht : t ≤ 100) : IV (T + 1) (addJ S a b t) := by
  obtain ⟨⟨⟨a0, a1, a2, a3, a4, a5, a6, a7, a8⟩, b5, c5, d5, e5, f5, g5, h5, i5, j5⟩, x5⟩ := h
  refine ⟨⟨⟨a0, ?_, ?_, a3, a4, Nat.succ_le_succ a5, Nat.le_succ_of_le a6, a7, fun _ => Nat.succ_pos _⟩, b5, c5, fun p => ?_, fun p hp => ?_, fun j => ?_, g5, h5, fun i => Nat.le_succ_of_le (i5 i), j5⟩, x5⟩
  · show S 0 1 + 1 + 1 ≤ 80
    omega
  · show (S 0 1 + 1 + 1) % 2 = 0
    omega
  · show up1 (up1 (S 9) (S 0 1) t) (S 0 1 + 1) t p ≤ 100 ∧ S 10 p ≤ 1
    exact ⟨up1_all (P := fun z => z ≤ 100) (up1_all (P := fun z => z ≤ 100) (fun i => (d5 i).1) ht) ht p, (d5 p).2⟩
  · have hp : p < S 0 1 + 1 + 1 := hp
    show up1 (up1 (S 7) (S 0 1) a) (S 0 1 + 1) b p < 2 * S 0 0 ∧ up1 (up1 (S 8) (S 0 1) b) (S 0 1 + 1) a p < 2 * S 0 0 ∧ up1 (up1 (S 7) (S 0 1) a) (S 0 1 + 1) b p / 2 ≠ up1 (up1 (S 8) (S 0 1) b) (S 0 1 + 1) a p / 2
    by_cases z : p = S 0 1 + 1
    · unfold up1
      rw [if_pos z, if_pos z]
      exact ⟨hb, ha, fun q => hab q.symm⟩
    · by_cases y : p = S 0 1
      · unfold up1
        rw [if_neg z, if_neg z, if_pos y, if_pos y]
        exact ⟨ha, hb, hab⟩
      · unfold up1
        rw [if_neg z, if_neg z, if_neg y, if_neg y]
        exact e5 p (by omega)
  · have h1 := f5 j
    show up1 (up1 (S 7) (S 0 1) a) (S 0 1 + 1) b (2 * j + 1) = up1 (up1 (S 8) (S 0 1) b) (S 0 1 + 1) a (2 * j) ∧ up1 (up1 (S 8) (S 0 1) b) (S 0 1 + 1) a (2 * j + 1) = up1 (up1 (S 7) (S 0 1) a) (S 0 1 + 1) b (2 * j) ∧ up1 (up1 (S 9) (S 0 1) t) (S 0 1 + 1) t (2 * j + 1) = up1 (up1 (S 9) (S 0 1) t) (S 0 1 + 1) t (2 * j)
    by_cases z : 2 * j = S 0 1
    · unfold up1
      rw [if_pos (show 2 * j + 1 = S 0 1 + 1 by omega), if_pos (show 2 * j + 1 = S 0 1 + 1 by omega), if_pos (show 2 * j + 1 = S 0 1 + 1 by omega), if_neg (show ¬ 2 * j = S 0 1 + 1 by omega), if_neg (show ¬ 2 * j = S 0 1 + 1 by omega), if_neg (show ¬ 2 * j = S 0 1 + 1 by omega), if_pos z, if_pos z, if_pos z]
      exact ⟨rfl, rfl, rfl⟩
    · unfold up1
      rw [if_neg (show ¬ 2 * j + 1 = S 0 1 + 1 by omega), if_neg (show ¬ 2 * j + 1 = S 0 1 + 1 by omega), if_neg (show ¬ 2 * j + 1 = S 0 1 + 1 by omega), if_neg (show ¬ 2 * j = S 0 1 + 1 by omega), if_neg (show ¬ 2 * j = S 0 1 + 1 by omega), if_neg (show ¬ 2 * j = S 0 1 + 1 by omega), if_neg (show ¬ 2 * j + 1 = S 0 1 by omega), if_neg (show ¬ 2 * j + 1 = S 0 1 by omega), if_neg (show ¬ 2 * j + 1 = S 0 1 by omega), if_neg z, if_neg z, if_neg z]
      exact h1
theorem IV_tu {T : Nat} {S : Nat → Nat → Nat} {p b : Nat} (h : IV T S) (hb : b ≤ 1) : IV (T + 1) (tuS S p b) := by
  obtain ⟨⟨⟨a0, a1, a2, a3, a4, a5, a6, a7, a8⟩, b5, c5, d5, e5, f5, g5, h5, i5, j5⟩, x5⟩ := h
  refine ⟨⟨⟨a0, a1, a2, a3, a4, Nat.succ_le_succ a5, Nat.le_succ_of_le a6, a7, fun _ => Nat.succ_pos _⟩, b5, c5, fun i => ?_, e5, f5, g5, h5, fun i => Nat.le_succ_of_le (i5 i), j5⟩, x5⟩
  show S 9 i ≤ 100 ∧ up1 (S 10) p b i ≤ 1
  exact ⟨(d5 i).1, up1_all (P := fun z => z ≤ 1) (fun i => (d5 i).2) hb i⟩
theorem IV_wi {T : Nat} {S : Nat → Nat → Nat} {p w : Nat} (h : IV T S) (hw : w ≤ 500) : IV (T + 1) (wiS S p w) := by
  obtain ⟨⟨⟨a0, a1, a2, a3, a4, a5, a6, a7, a8⟩, b5, c5, d5, e5, f5, g5, h5, i5, j5⟩, x5⟩ := h
  refine ⟨⟨⟨a0, a1, a2, a3, a4, Nat.succ_le_succ a5, Nat.le_succ_of_le a6, a7, fun _ => Nat.succ_pos _⟩, fun i => ?_, c5, d5, e5, f5, g5, h5, fun i => Nat.le_succ_of_le (i5 i), j5⟩, x5⟩
  show S 1 i ≤ 9 ∧ S 2 i ≤ 1000 ∧ up1 (S 3) p w i ≤ 500 ∧ S 4 i ≤ 1 ∧ S 5 i ≤ 1 ∧ S 6 i < 2 ^ 24
  exact ⟨(b5 i).1, (b5 i).2.1, up1_all (P := fun z => z ≤ 500) (fun i => (b5 i).2.2.1) hw i, (b5 i).2.2.2⟩
theorem IV_zo {T : Nat} {S : Nat → Nat → Nat} {p k : Nat} {b : Bool} (h : IV T S) (hk : k < 24) : IV (T + 1) (zoS S p k b) := by
  obtain ⟨⟨⟨a0, a1, a2, a3, a4, a5, a6, a7, a8⟩, b5, c5, d5, e5, f5, g5, h5, i5, j5⟩, x5⟩ := h
  refine ⟨⟨⟨a0, a1, a2, a3, a4, Nat.succ_le_succ a5, Nat.le_succ_of_le a6, a7, fun _ => Nat.succ_pos _⟩, fun i => ?_, c5, d5, e5, f5, g5, h5, fun i => Nat.le_succ_of_le (i5 i), j5⟩, x5⟩
  show S 1 i ≤ 9 ∧ S 2 i ≤ 1000 ∧ S 3 i ≤ 500 ∧ S 4 i ≤ 1 ∧ S 5 i ≤ 1 ∧ up1 (S 6) p (wb (S 6 p) k b) i < 2 ^ 24
  exact ⟨(b5 i).1, (b5 i).2.1, (b5 i).2.2.1, (b5 i).2.2.2.1, (b5 i).2.2.2.2.1, up1_all (P := fun z => z < 2 ^ 24) (fun i => (b5 i).2.2.2.2.2) (wb_ok b (b5 p).2.2.2.2.2 hk).2 i⟩
theorem IV_cl {T : Nat} {S : Nat → Nat → Nat} {p b : Nat} (h : IV T S) (hb : b ≤ 1) : IV (T + 1) (clS S p b) := by
  obtain ⟨⟨⟨a0, a1, a2, a3, a4, a5, a6, a7, a8⟩, b5, c5, d5, e5, f5, g5, h5, i5, j5⟩, x5⟩ := h
  refine ⟨⟨⟨a0, a1, a2, a3, a4, Nat.succ_le_succ a5, Nat.le_succ_of_le a6, a7, fun _ => Nat.succ_pos _⟩, fun i => ?_, c5, d5, e5, f5, g5, h5, fun i => Nat.le_succ_of_le (i5 i), j5⟩, x5⟩
  show S 1 i ≤ 9 ∧ S 2 i ≤ 1000 ∧ S 3 i ≤ 500 ∧ S 4 i ≤ 1 ∧ up1 (S 5) p b i ≤ 1 ∧ S 6 i < 2 ^ 24
  exact ⟨(b5 i).1, (b5 i).2.1, (b5 i).2.2.1, (b5 i).2.2.2.1, up1_all (P := fun z => z ≤ 1) (fun i => (b5 i).2.2.2.2.1) hb i, (b5 i).2.2.2.2.2⟩
theorem IV_ro {T : Nat} {S : Nat → Nat → Nat} {w : Nat} (h : IV T S) (hm : S 0 2 < 6) (hw : w ≤ 500) : IV (T + 1) (roS S w) := by
  unfold roS
  split
  · obtain ⟨⟨⟨a0, a1, a2, a3, a4, a5, a6, a7, a8⟩, b5, c5, d5, e5, f5, g5, h5, i5, j5⟩, x5⟩ := h
    refine ⟨⟨⟨a0, a1, a2, hm, a4, Nat.succ_le_succ a5, Nat.le_succ_of_le a6, a7, fun _ => Nat.succ_pos _⟩, b5, c5, d5, e5, f5, fun i => ?_, h5, fun i => Nat.le_succ_of_le (i5 i), j5⟩, x5⟩
    show up1 (S 11) (S 0 2) w i ≤ 500
    exact up1_all (P := fun z => z ≤ 500) g5 hw i
  · exact h.mono (Nat.le_succ _)
theorem IV_ch {T : Nat} {S : Nat → Nat → Nat} {p : Nat} (h : IV T S) (hm : S 0 3 < 8) (hp : p < S 0 0) : IV (T + 1) (chS S p) := by
  obtain ⟨⟨⟨a0, a1, a2, a3, a4, a5, a6, a7, a8⟩, b5, c5, d5, e5, f5, g5, h5, i5, j5⟩, x5⟩ := h
  refine ⟨⟨⟨a0, a1, a2, a3, hm, Nat.succ_le_succ a5, Nat.le_succ_of_le a6, a7, fun _ => Nat.succ_pos _⟩, b5, c5, d5, e5, f5, g5, fun i hi => ?_, fun i => Nat.le_succ_of_le (i5 i), j5⟩, fun i => ?_⟩
  · have hi : i < S 0 3 + 1 := hi
    show up1 (S 12) (S 0 3) p i < S 0 0
    unfold up1
    split
    · exact hp
    · exact h5 i (by omega)
  · show up1 (S 12) (S 0 3) p i < 20
    exact up1_all (P := fun z => z < 20) x5 (by omega) i
theorem IV_tb {T : Nat} {S : Nat → Nat → Nat} {k : Nat} (h : IV T S) : IV (T + 1) (tbS S k) := by
  unfold tbS
  split
  · exact h.mono (Nat.le_succ _)
  · obtain ⟨⟨⟨a0, a1, a2, a3, a4, a5, a6, a7, a8⟩, b5, c5, d5, e5, f5, g5, h5, i5, j5⟩, x5⟩ := h
    refine ⟨⟨⟨a0, a1, a2, a3, a4, Nat.le_succ_of_le a5, Nat.succ_le_succ a6, a7, a8⟩, b5, c5, d5, e5, f5, g5, h5, fun i => ?_, j5⟩, x5⟩
    show up1 (S 13) k (S 0 4) i ≤ S 0 4
    exact up1_all (P := fun z => z ≤ S 0 4) i5 (Nat.le_refl _) i
theorem wChn_b {S : Nat → Nat → Nat} {o : Nat → Bool} {a t : Nat} {r : Nat → Nat} (hW : Gw S) (hF : Fx S o a r) (hat : a ≠ t) (ht : t < S 0 0) (h20 : S 0 0 ≤ 20) (hx : (lpB S o r t (S 0 1)).2 < 1000000) : ∀ f A n e, Ck S r t (lpB S o r t (S 0 1)).2 n e → (∀ i, A i < 20) → (∀ i, (wChn S o r f A n e).1 i < 20) ∧ (wChn S o r f A n e).2 ≤ 40
  | 0, A, n, e, h, hA => ⟨hA, by have := Ck_lt hW ht h; show n ≤ 40; omega⟩
  | f + 1, A, n, e, h, hA => by
    have h1 := Ck_lt hW ht h
    have hA2 : ∀ i, up1 A n (e / 2) i < 20 := up1_lt hA (by have := h.1; omega)
    unfold wChn
    by_cases z : r e = 0
    · rw [if_pos z]
      exact ⟨hA2, by show n + 1 ≤ 40; omega⟩
    · rw [if_neg z]
      exact wChn_b hW hF hat ht h20 hx f _ _ _ (Ck_next hW hF hat h z hx) hA2
theorem wayE_b {S : Nat → Nat → Nat} {o : Nat → Bool} {a t : Nat} {r : Nat → Nat} (hW : Gw S) (hF : Fx S o a r) (ht : t < S 0 0) (h20 : S 0 0 ≤ 20) (h14 : ∀ i, S 14 i < 20) : (∀ i, (wayE S o r a t).1 i < 20) ∧ (wayE S o r a t).2 ≤ 40 := by
  unfold wayE
  by_cases z : a = t
  · rw [if_pos z]
    exact ⟨up1_lt h14 (by omega), (by decide : 1 ≤ 40)⟩
  · rw [if_neg z]
    by_cases y : (lpB S o r t (S 0 1)).1 = 0
    · rw [if_pos y]
      exact ⟨h14, (by decide : 0 ≤ 40)⟩
    · rw [if_neg y]
      have hm := (lpB_min (S := S) (o := o) (r := r) (t := t) (S 0 1)).2 (by omega)
      exact wChn_b hW hF z ht h20 hm.2.2.1 _ _ _ _ (Ck_first hW hF (by omega)) (up1_lt h14 (by omega))
theorem IV_wa {T : Nat} {S : Nat → Nat → Nat} {w hh a t : Nat} (h : IV T S) (ha : a < S 0 0) (ht : t < S 0 0) : IV (T + 1) (waS S w hh a t) := by
  have hb := wayE_b (o := opn S w hh) (r := fin S (opn S w hh) a) h.Gw (Fx_of h.Gr Rb_nv ha) ht h.1.1.1 h.1.2.2.2.2.2.2.2.2.2
  obtain ⟨⟨⟨a0, a1, a2, a3, a4, a5, a6, a7, a8⟩, b5, c5, d5, e5, f5, g5, h5, i5, j5⟩, x5⟩ := h
  exact ⟨⟨⟨a0, a1, a2, a3, a4, Nat.le_succ_of_le a5, Nat.le_succ_of_le a6, hb.2, a8⟩, b5, c5, d5, e5, f5, g5, h5, i5, hb.1⟩, x5⟩
