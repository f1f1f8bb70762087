/-! The system's states where the count of changes goes first; sizes kept. -/
theorem Bd_ch {S : Nat → Nat → Nat} {v : Nat} (h : Bd S) : Bd (up2 S 0 4 v) := h
theorem addQ_ch {S : Nat → Nat → Nat} {l t b v : Nat} : addQ (up2 S 0 4 v) l t b = up2 (addQ S l t b) 0 4 v := by
  show up2 (up2 (up2 (up2 (up2 (up2 S 0 4 v) 1 (S 0 0) l) 2 (S 0 0) t) 3 (S 0 0) 100) 4 (S 0 0) b) 0 0 (S 0 0 + 1) = up2 (up2 (up2 (up2 (up2 (up2 S 1 (S 0 0) l) 2 (S 0 0) t) 3 (S 0 0) 100) 4 (S 0 0) b) 0 0 (S 0 0 + 1)) 0 4 v
  rw [up2_comm (f := 0) (i := 4) (g := 1) (by omega), up2_comm (f := 0) (i := 4) (g := 2) (by omega), up2_comm (f := 0) (i := 4) (g := 3) (by omega), up2_comm (f := 0) (i := 4) (g := 4) (by omega), up2_comm (f := 0) (i := 4) (g := 0) (j := 0) (by omega)]
theorem addA_ch {S : Nat → Nat → Nat} {a b t v : Nat} : addA (up2 S 0 4 v) a b t = up2 (addA S a b t) 0 4 v := by
  show up2 (up2 (up2 (up2 (up2 S 0 4 v) 7 (S 0 1) a) 8 (S 0 1) b) 9 (S 0 1) t) 0 1 (S 0 1 + 1) = up2 (up2 (up2 (up2 (up2 S 7 (S 0 1) a) 8 (S 0 1) b) 9 (S 0 1) t) 0 1 (S 0 1 + 1)) 0 4 v
  rw [up2_comm (f := 0) (i := 4) (g := 7) (by omega), up2_comm (f := 0) (i := 4) (g := 8) (by omega), up2_comm (f := 0) (i := 4) (g := 9) (by omega), up2_comm (f := 0) (i := 4) (g := 0) (j := 1) (by omega)]
theorem addJ_ch {S : Nat → Nat → Nat} {a b t : Nat} : addA (addA (up2 S 0 4 (S 0 4 + 1)) a b t) b a t = addJ S a b t := by
  rw [addA_ch, addA_ch]
  rfl
theorem lv2_ch {S Z : Nat → Nat → Nat} {a b t v : Nat} : lv2 (up2 S 0 4 v) Z a b t = lv2 S Z a b t := by
  unfold lv2
  rw [addA_ch]
  rfl
theorem Bd_r10 {S : Nat → Nat → Nat} {v p b : Nat} (h : Bd S) (hb : b ≤ 1) : Bd (up2 (up2 S 0 4 v) 10 p b) := by
  obtain ⟨b0, b5, b6, b7, b8⟩ := h
  exact ⟨b0, b5, fun i => ⟨(b6 i).1, up2_le1 (S := up2 S 0 4 v) (f := 10) (fun i => (b6 i).2) hb i⟩, b7, b8⟩
theorem Bd_r5 {S : Nat → Nat → Nat} {v p b : Nat} (h : Bd S) (hb : b ≤ 1) : Bd (up2 (up2 S 0 4 v) 5 p b) := by
  obtain ⟨b0, b5, b6, b7, b8⟩ := h
  exact ⟨b0, fun i => ⟨(b5 i).1, (b5 i).2.1, (b5 i).2.2.1, (b5 i).2.2.2.1, up2_le1 (S := up2 S 0 4 v) (f := 5) (fun i => (b5 i).2.2.2.2.1) hb i, (b5 i).2.2.2.2.2⟩, b6, b7, b8⟩
theorem ro_ch {S : Nat → Nat → Nat} {w n v : Nat} : up2 (up2 (up2 S 0 4 v) 11 n w) 0 2 (n + 1) = up2 (up2 (up2 S 11 n w) 0 2 (n + 1)) 0 4 v := by
  rw [up2_comm (f := 0) (i := 4) (g := 11) (by omega), up2_comm (f := 0) (i := 4) (g := 0) (j := 2) (by omega)]
theorem ch_ch {S : Nat → Nat → Nat} {w n v : Nat} : up2 (up2 (up2 S 0 4 v) 12 n w) 0 3 (n + 1) = up2 (up2 (up2 S 12 n w) 0 3 (n + 1)) 0 4 v := by
  rw [up2_comm (f := 0) (i := 4) (g := 12) (by omega), up2_comm (f := 0) (i := 4) (g := 0) (j := 3) (by omega)]
theorem sm_two {f : Nat → Nat} {a : Nat} : sm f a (a + 2 - a) = f a + f (a + 1) := by
  rw [show a + 2 - a = 2 by omega]
  show 0 + f (a + 0) + f (a + 1) = _
  rw [Nat.zero_add, Nat.add_zero]
