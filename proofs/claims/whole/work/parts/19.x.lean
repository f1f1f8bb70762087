/-! The reference's joins by pairs of passages; bits. -/
theorem updE {S : Nat → Nat → Nat} (f P a : Nat) (h : P % 2 = 0) : upd (fun i => nI (S f (2 * i))) (P / 2) (nI a) = fun i => nI (up2 S f P a f (2 * i)) := by
  funext i
  unfold upd up2 upR up1
  simp only [if_true]
  by_cases q : i = P / 2
  · rw [if_pos q, if_pos (by omega)]
  · rw [if_neg q, if_neg (by omega)]
theorem wM_eq {q : Nat → Nat} {k : Nat → ClassId} {S S' Z : Nat → Nat → Nat} (h0 : S' 0 = S 0) (h1 : S' 1 = S 1) (h2 : S' 2 = S 2) (h3 : S' 3 = S 3) (h4 : S' 4 = S 4) (h5 : S' 5 = S 5) (h6 : S' 6 = S 6) (h11 : S' 11 = S 11) (h12 : S' 12 = S 12) (h13 : S' 13 = S 13) (h14 : S' 14 = S 14) (h7 : ∀ i, S' 7 (2 * i) = S 7 (2 * i)) (h8 : ∀ i, S' 8 (2 * i) = S 8 (2 * i)) (h9 : ∀ i, S' 9 (2 * i) = S 9 (2 * i)) (h10 : S' 10 = S 10) : wM q k S Z = wM q k S' Z := by
  unfold wM
  simp only [h0, h1, h2, h3, h4, h5, h6, h11, h12, h13, h14, h7, h8, h9, h10]
theorem sP_M7 {D : va_G} {H : Heap} {q : Nat → Nat} {k : Nat → ClassId} {S m : Nat → Nat → Nat} {P v : Nat} (h : va_P D vwCl ((wM q k S m).set 7 (q 7, .inl (k 0, 40, .inl (fun i => nI (up2 S 7 P v 7 (2 * i)))))) H) : va_P D vwCl (wM q k (up2 S 7 P v) m) H := h
theorem sD_M7 {A : Nat → Prop} {q : Nat → Nat} {k : Nat → ClassId} {S m : Nat → Nat → Nat} {P v : Nat} (h : va_D A ((wM q k S m).set 7 (q 7, .inl (k 0, 40, .inl (fun i => nI (up2 S 7 P v 7 (2 * i))))))) : va_D A (wM q k (up2 S 7 P v) m) := h
theorem sP_M8 {D : va_G} {H : Heap} {q : Nat → Nat} {k : Nat → ClassId} {S m : Nat → Nat → Nat} {P v : Nat} (h : va_P D vwCl ((wM q k S m).set 8 (q 8, .inl (k 0, 40, .inl (fun i => nI (up2 S 8 P v 8 (2 * i)))))) H) : va_P D vwCl (wM q k (up2 S 8 P v) m) H := h
theorem sD_M8 {A : Nat → Prop} {q : Nat → Nat} {k : Nat → ClassId} {S m : Nat → Nat → Nat} {P v : Nat} (h : va_D A ((wM q k S m).set 8 (q 8, .inl (k 0, 40, .inl (fun i => nI (up2 S 8 P v 8 (2 * i))))))) : va_D A (wM q k (up2 S 8 P v) m) := h
theorem sP_M9 {D : va_G} {H : Heap} {q : Nat → Nat} {k : Nat → ClassId} {S m : Nat → Nat → Nat} {P v : Nat} (h : va_P D vwCl ((wM q k S m).set 9 (q 9, .inl (k 0, 40, .inl (fun i => nI (up2 S 9 P v 9 (2 * i)))))) H) : va_P D vwCl (wM q k (up2 S 9 P v) m) H := h
theorem sD_M9 {A : Nat → Prop} {q : Nat → Nat} {k : Nat → ClassId} {S m : Nat → Nat → Nat} {P v : Nat} (h : va_D A ((wM q k S m).set 9 (q 9, .inl (k 0, 40, .inl (fun i => nI (up2 S 9 P v 9 (2 * i))))))) : va_D A (wM q k (up2 S 9 P v) m) := h
theorem sP_M10 {D : va_G} {H : Heap} {q : Nat → Nat} {k : Nat → ClassId} {S m : Nat → Nat → Nat} {P v : Nat} (h : va_P D vwCl ((wM q k S m).set 10 (q 10, .inl (k 0, 40, .inl (fun i => nI (up2 S 10 P v 10 (2 * i) + 2 * up2 S 10 P v 10 (2 * i + 1)))))) H) : va_P D vwCl (wM q k (up2 S 10 P v) m) H := h
theorem sD_M10 {A : Nat → Prop} {q : Nat → Nat} {k : Nat → ClassId} {S m : Nat → Nat → Nat} {P v : Nat} (h : va_D A ((wM q k S m).set 10 (q 10, .inl (k 0, 40, .inl (fun i => nI (up2 S 10 P v 10 (2 * i) + 2 * up2 S 10 P v 10 (2 * i + 1))))))) : va_D A (wM q k (up2 S 10 P v) m) := h
theorem jHalf {P v : Nat} (h : v = P / 2) : nI v = nI (P / 2) := by rw [h]
theorem addJ_eq {q : Nat → Nat} {k : Nat → ClassId} {S Z : Nat → Nat → Nat} {a b t : Nat} (h : S 0 1 % 2 = 0) : wM q k (up2 (up2 (up2 (up2 (up2 S 7 (S 0 1) a) 8 (S 0 1) b) 9 (S 0 1) t) 0 1 (S 0 1 + 2)) 0 4 (S 0 4 + 1)) Z = wM q k (addJ S a b t) Z := by
  have hf : ∀ f P v w i, P % 2 = 0 → up1 (up1 (S f) P v) (P + 1) w (2 * i) = up1 (S f) P v (2 * i) := fun f P v w i hp => up1_ne _ _ (by omega)
  refine wM_eq ?_ rfl rfl rfl rfl rfl rfl rfl rfl rfl rfl ?_ ?_ ?_ rfl
  · funext j
    show up1 (up1 (up1 (S 0) 1 (S 0 1 + 1)) 1 (S 0 1 + 1 + 1)) 4 (S 0 4 + 1) j = up1 (up1 (S 0) 1 (S 0 1 + 2)) 4 (S 0 4 + 1) j
    unfold up1
    by_cases q4 : j = 4
    · rw [if_pos q4, if_pos q4]
    · rw [if_neg q4, if_neg q4]
      by_cases q1 : j = 1
      · rw [if_pos q1, if_pos q1]
      · rw [if_neg q1, if_neg q1]
        simp [q1]
  · exact fun i => hf 7 (S 0 1) a b i h
  · exact fun i => hf 8 (S 0 1) b a i h
  · exact fun i => hf 9 (S 0 1) t t i h
theorem sh_1 : ∀ l, l < 32 → ((nI 1 : Int32) <<< (nI l &&& 31)).toBitVec = BitVec.twoPow 32 l := by decide
theorem i32_small {x : Int32} {n : Nat} (h : x.toBitVec.toNat = n) : x = nI n := by
  apply Int32.toBitVec_inj.mp
  apply BitVec.eq_of_toNat_eq
  rw [h]
  have h1 : n < 2 ^ 32 := by rw [← h]; exact x.toBitVec.isLt
  exact (pk_tn h1).symm
theorem iN_nI {n : Nat} (h : n < 2 ^ 31) : iN (nI n) = n := by
  unfold iN
  rw [nI_toInt h]
  rfl
theorem wb_ok {v k : Nat} (b : Bool) (hv : v < 2 ^ 24) (hk : k < 24) : wbI v k b = nI (wb v k b) ∧ wb v k b < 2 ^ 24 := by
  have key : ∃ n, n < 2 ^ 24 ∧ wbI v k b = nI n := by
    cases b with
    | true =>
      refine ⟨v ||| 2 ^ k, Nat.or_lt_two_pow hv (Nat.pow_lt_pow_right (by decide) hk), i32_small ?_⟩
      show ((nI v ||| (nI 1 <<< (nI k &&& 31))) : Int32).toBitVec.toNat = _
      rw [Int32.toBitVec_or, BitVec.toNat_or, sh_1 k (by omega), pk_tn (by omega), BitVec.toNat_twoPow]
      rw [Nat.mod_eq_of_lt (Nat.pow_lt_pow_right (by decide) (by omega))]
    | false =>
      refine ⟨(nI v &&& ((nI 1 <<< (nI k &&& 31)) ^^^ pI 0)).toBitVec.toNat, ?_, i32_small rfl⟩
      rw [Int32.toBitVec_and, BitVec.toNat_and, pk_tn (by omega)]
      exact Nat.lt_of_le_of_lt Nat.and_le_left hv
  obtain ⟨n, hn, he⟩ := key
  have hw : wb v k b = n := by
    unfold wb
    rw [he, iN_nI (by omega)]
  rw [hw]
  exact ⟨he, hn⟩
theorem wb_2 : ∀ a, a < 2 → ∀ b, b < 2 → ∀ d, d < 2 → ∀ c : Bool, wb (a + 2 * b) d c = if d = 0 then bN c + 2 * b else a + 2 * bN c := by decide +kernel
theorem pop_2 : ∀ a, a < 2 → ∀ b, b < 2 → pop (a + 2 * b) = a + b := by decide +kernel
theorem barU {S : Nat → Nat → Nat} {j d : Nat} (c : Bool) (h : ∀ p, S 10 p ≤ 1) (hd : d < 2) : upd (fun i => nI (S 10 (2 * i) + 2 * S 10 (2 * i + 1))) j (nI (wb (S 10 (2 * j) + 2 * S 10 (2 * j + 1)) d c)) = fun i => nI (up2 S 10 (2 * j + d) (bN c) 10 (2 * i) + 2 * up2 S 10 (2 * j + d) (bN c) 10 (2 * i + 1)) := by
  have h1 := h (2 * j)
  have h2 := h (2 * j + 1)
  funext i
  unfold upd
  by_cases q : i = j
  · subst q
    rw [if_pos rfl, wb_2 _ (by omega) _ (by omega) d hd c]
    rcases (show d = 0 ∨ d = 1 by omega) with rfl | rfl
    · rw [if_pos rfl, up2_ne _ _ _ (show 2 * i + 1 ≠ 2 * i + 0 by omega)]
      show nI (bN c + 2 * S 10 (2 * i + 1)) = nI (up2 S 10 (2 * i) (bN c) 10 (2 * i) + 2 * S 10 (2 * i + 1))
      rw [up2_same]
    · rw [if_neg (by decide), up2_ne _ _ _ (show 2 * i ≠ 2 * i + 1 by omega), up2_same]
  · rw [if_neg q, up2_ne _ _ _ (show 2 * i ≠ 2 * j + d by omega), up2_ne _ _ _ (show 2 * i + 1 ≠ 2 * j + d by omega)]
theorem up2_le1 {S : Nat → Nat → Nat} {f p v : Nat} (h : ∀ i, S f i ≤ 1) (hv : v ≤ 1) (i : Nat) : up2 S f p v f i ≤ 1 := by
  by_cases q : i = p
  · rw [q, up2_same]; exact hv
  · rw [up2_ne _ _ _ q]; exact h i
