/-! What a taken call leaves: the invariants of both sides. -/
theorem cd2_z {ok full : Prop} (h : cd2 ok full = 0) : ok ∧ ¬ full := by
  by_cases h1 : ok
  · by_cases h2 : full
    · rw [cd2_2 h1 h2] at h
      exact absurd h (by decide)
    · exact ⟨h1, h2⟩
  · rw [cd2_1 h1] at h
    exact absurd h (by decide)
theorem cd2_31 {ok full : Prop} : cd2 ok full < 2 ^ 31 := by
  by_cases h1 : ok
  · by_cases h2 : full
    · rw [cd2_2 h1 h2]; decide
    · rw [cd2_0 h1 h2]; decide
  · rw [cd2_1 h1]; decide
theorem cdC_31 {S : Nat → Nat → Nat} {x0 : Int32} : cdC S x0 < 2 ^ 31 := by
  unfold cdC
  split
  · split
    · decide
    · split <;> decide
  · decide
theorem cdTb_31 {S : Nat → Nat → Nat} {x0 x1 : Int32} : cdTb S x0 x1 < 2 ^ 31 := by
  unfold cdTb
  split
  · decide
  · split <;> decide
theorem cdC_z {S : Nat → Nat → Nat} {x0 : Int32} (h : cdC S x0 = 0) : isPc S x0 ∧ S 0 3 ≠ 8 := by
  unfold cdC at h
  split at h
  · rename_i h1
    split at h
    · exact absurd h (by decide)
    · split at h
      · exact absurd h (by decide)
      · rename_i h3
        exact ⟨h1, h3⟩
  · exact absurd h (by decide)
theorem iN_le {x : Int32} {n : Nat} (h : x.toInt ≤ (n : Int)) : iN x ≤ n := by
  unfold iN
  omega
theorem IV.c13 {T : Nat} {S : Nat → Nat → Nat} (h : IV T S) : ∀ i, S 13 i ≤ S 0 4 := h.1.2.2.2.2.2.2.2.2.1
theorem IV.le {T : Nat} {S : Nat → Nat → Nat} (h : IV T S) : S 0 0 ≤ 20 ∧ S 0 1 ≤ 80 ∧ S 0 1 % 2 = 0 ∧ S 0 2 ≤ 6 ∧ S 0 3 ≤ 8 ∧ S 0 4 ≤ T ∧ S 0 5 ≤ T ∧ S 0 6 ≤ 40 ∧ (0 < S 0 3 → 0 < S 0 4) := h.1.1
theorem IV.ends {T : Nat} {S : Nat → Nat → Nat} (h : IV T S) : ∀ p, p < S 0 1 → S 7 p < 2 * S 0 0 ∧ S 8 p < 2 * S 0 0 ∧ S 7 p / 2 ≠ S 8 p / 2 := h.1.2.2.2.2.1
theorem IV.c12 {T : Nat} {S : Nat → Nat → Nat} (h : IV T S) : ∀ i, i < S 0 3 → S 12 i < S 0 0 := h.1.2.2.2.2.2.2.2.1
theorem IV.hz {T : Nat} {S Z : Nat → Nat → Nat} (h : IV T S) (hC : CI S Z) : ∀ e, e < 40 → S 0 1 < 80 → Z 3 e < 40 := fun e he h8 => by
  have := LV_half h hC.2.2.1 he
  omega
section PU
variable {T : Nat} {S Z z : Nat → Nat → Nat} {x0 x1 x2 x3 x4 : Int32} {b : Bool}
theorem np_piece (hI : IV T S) (hC : CI S Z) (h0 : cdP S x0 x1 = 0) (hz : z = Z) : IV (T + 1) (addP S (iN x0) (iN x1) (bN b)) ∧ CI (addP S (iN x0) (iN x1) (bN b)) z := by
  obtain ⟨⟨a1, a2, a3, a4⟩, a5⟩ := cd2_z h0
  have := hI.le
  have e1 := iN_toInt a1
  have e2 := iN_toInt (x := x1) (by omega)
  subst hz
  exact ⟨IV_P hI (by omega) (by omega) (by omega) (by omega) (bN_le b), CI_n hC hI.c13 rfl rfl rfl rfl⟩
theorem np_J {a b t : Nat} (hI : IV T S) (hC : CI S Z) (h8 : S 0 1 ≠ 80) (ha : a < 2 * S 0 0) (hb : b < 2 * S 0 0) (hab : a / 2 ≠ b / 2) (ht : t ≤ 100) (hz : z = lv2 S Z a b t) : IV (T + 1) (addJ S a b t) ∧ CI (addJ S a b t) z := by
  have := hI.le
  subst hz
  exact ⟨IV_J hI (by omega) ha hb hab ht, CI_J hC hI.c13 (fun h => hab (by rw [h])) (hI.hz hC a (by omega) (by omega)) (hI.hz hC b (by omega) (by omega))⟩
theorem np_join (hI : IV T S) (hC : CI S Z) (h0 : cdJ S x0 x1 x2 x3 x4 = 0) (hz : z = lv2 S Z (2 * iN x0 + iN x1) (2 * iN x2 + iN x3) (iN x4)) : IV (T + 1) (addJ S (2 * iN x0 + iN x1) (2 * iN x2 + iN x3) (iN x4)) ∧ CI (addJ S (2 * iN x0 + iN x1) (2 * iN x2 + iN x3) (iN x4)) z := by
  obtain ⟨⟨a0, a2, a1, a3, an, a4, -⟩, a5⟩ := cd2_z h0
  have l0 := a0.lt
  have l2 := a2.lt
  have e0 := iN_toInt a0.1
  have e2 := iN_toInt a2.1
  have e1 := iN_toInt a1.1
  have e3 := iN_toInt a3.1
  have e4 := iN_toInt a4.1
  exact np_J hI hC a5 (by omega) (by omega) (by omega) (by omega) hz
theorem np_lift (hI : IV T S) (hC : CI S Z) (h0 : cdL S x0 x1 x2 = 0) (hz : z = lv2 S Z (2 * iN x0 + 1) (2 * iN x1 + 1) (iN x2)) : IV (T + 1) (addJ S (2 * iN x0 + 1) (2 * iN x1 + 1) (iN x2)) ∧ CI (addJ S (2 * iN x0 + 1) (2 * iN x1 + 1) (iN x2)) z := by
  obtain ⟨⟨a0, a1, a2, a3⟩, a5⟩ := cd2_z h0
  have l0 := a0.lt
  have l1 := a1.lt
  have e2 := iN_toInt a2.1
  exact np_J hI hC a5 (by omega) (by omega) (fun h => a3 (by rw [show iN x0 = iN x1 by omega])) (by omega) hz
theorem np_turn (hI : IV T S) (hC : CI S Z) (_h0 : cd1 (okT S x0 x1) = 0) (hz : z = Z) : IV (T + 1) (tuS S (2 * iN x0 + iN x1) (bN b)) ∧ CI (tuS S (2 * iN x0 + iN x1) (bN b)) z := by
  subst hz
  exact ⟨IV_tu hI (bN_le b), CI_n hC hI.c13 rfl rfl rfl rfl⟩
theorem np_width (hI : IV T S) (hC : CI S Z) (h0 : cd1 (okW S x0 x1) = 0) (hz : z = Z) : IV (T + 1) (wiS S (iN x0) (iN x1)) ∧ CI (wiS S (iN x0) (iN x1)) z := by
  obtain ⟨⟨-, -, a2⟩, -⟩ := cd2_z h0
  subst hz
  exact ⟨IV_wi hI (iN_le a2), CI_n hC hI.c13 rfl rfl rfl rfl⟩
theorem np_zone (hI : IV T S) (hC : CI S Z) (h0 : cd1 (okZ S x0 x1) = 0) (hz : z = Z) : IV (T + 1) (zoS S (iN x0) (iN x1) b) ∧ CI (zoS S (iN x0) (iN x1) b) z := by
  obtain ⟨⟨-, -, a2⟩, -⟩ := cd2_z h0
  subst hz
  exact ⟨IV_zo hI (Nat.lt_succ_of_le (iN_le (n := 23) a2)), CI_n hC hI.c13 rfl rfl rfl rfl⟩
theorem np_closed (hI : IV T S) (hC : CI S Z) (_h0 : cd1 (isPc S x0) = 0) (hz : z = Z) : IV (T + 1) (clS S (iN x0) (bN b)) ∧ CI (clS S (iN x0) (bN b)) z := by
  subst hz
  exact ⟨IV_cl hI (bN_le b), CI_n hC hI.c13 rfl rfl rfl rfl⟩
theorem np_robot (hI : IV T S) (hC : CI S Z) (h0 : cdR S x0 = 0) (hz : z = Z) : IV (T + 1) (roS S (iN x0)) ∧ CI (roS S (iN x0)) z := by
  obtain ⟨⟨-, a2⟩, a5⟩ := cd2_z h0
  have := hI.le
  subst hz
  refine ⟨IV_ro hI (by omega) (iN_le a2), ?_⟩
  unfold roS
  split
  · exact CI_n hC hI.c13 rfl rfl rfl rfl
  · exact hC
theorem np_way (hI : IV T S) (hC : CI S Z) (h0 : cd1 (okD S x0 x1 x2 x3) = 0) (hz : ZR Z z) : IV (T + 1) (waS S (S 11 (iN x0)) (iN x3) (iN x1) (iN x2)) ∧ CI (waS S (S 11 (iN x0)) (iN x3) (iN x1) (iN x2)) z := by
  obtain ⟨⟨-, a1, a2, -⟩, -⟩ := cd2_z h0
  refine ⟨IV_wa hI a1.lt a2.lt, CI_Z (CI_k hC ?_ rfl rfl rfl rfl rfl) hz⟩
  unfold waS
  exact ⟨rfl, rfl, rfl, rfl, rfl, rfl, rfl, rfl, rfl, rfl, rfl⟩
theorem np_same (hI : IV T S) (hC : CI S Z) (_h0 : cd1 (okD S x0 x1 x2 x3) = 0) (hz : ZR Z z) : IV (T + 1) S ∧ CI S z := ⟨hI.mono (Nat.le_succ T), CI_Z hC hz⟩
theorem np_nearest (hI : IV T S) (hC : CI S Z) (_h0 : cd1 (okD S x0 x1 x1 x2) = 0) (hz : ZR Z z) : IV (T + 1) S ∧ CI S z := ⟨hI.mono (Nat.le_succ T), CI_Z hC hz⟩
theorem np_plain (hI : IV T S) (hC : CI S Z) (_h0 : cd1 (okD S x0 x1 x2 x3 ∧ 0 ≤ x4.toInt ∧ x4.toInt ≤ 5) = 0) (hz : ZR Z z) : IV (T + 1) S ∧ CI S z := ⟨hI.mono (Nat.le_succ T), CI_Z hC hz⟩
theorem np_charger (hI : IV T S) (hC : CI S Z) (h0 : cdC S x0 = 0) (hz : z = Z) : IV (T + 1) (chS S (iN x0)) ∧ CI (chS S (iN x0)) z := by
  obtain ⟨a1, a5⟩ := cdC_z h0
  have := hI.le
  subst hz
  exact ⟨IV_ch hI (by omega) a1.lt, CI_n hC hI.c13 rfl rfl rfl rfl⟩
theorem np_table (hI : IV T S) (_hC : CI S Z) (_h0 : cdTb S x0 x1 = 0) (hz : CI (tbS S (iN x0)) z) : IV (T + 1) (tbS S (iN x0)) ∧ CI (tbS S (iN x0)) z := ⟨IV_tb hI, hz⟩
end PU
theorem Rb_up {Z : Nat → Nat → Nat} {v : Nat} (h : Rb (Z 1)) : Rb (up2 Z 0 0 v 1) := fun e => by
  rw [up2_row _ _ _ (by decide)]
  exact h e
