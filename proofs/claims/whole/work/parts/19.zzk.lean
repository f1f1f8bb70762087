/-! Integer.bitCount, by bytes. -/
theorem and_split {a m y M : Nat} (ha : a < 256) (hm : m < 256) : (a + 256 * y) &&& (m + 256 * M) = (a &&& m) + 256 * (y &&& M) := by
  have h1 : a &&& m < 2 ^ 8 := Nat.and_lt_two_pow a (show m < 2 ^ 8 from hm)
  rw [show a + 256 * y = 2 ^ 8 * y + a by omega, show m + 256 * M = 2 ^ 8 * M + m by omega, show (a &&& m) + 256 * (y &&& M) = 2 ^ 8 * (y &&& M) + (a &&& m) by omega]
  apply Nat.eq_of_testBit_eq
  intro j
  rw [Nat.testBit_and, Nat.testBit_two_pow_mul_add _ (show a < 2 ^ 8 from ha), Nat.testBit_two_pow_mul_add _ (show m < 2 ^ 8 from hm), Nat.testBit_two_pow_mul_add _ h1]
  split
  · rw [Nat.testBit_and]
  · rw [Nat.testBit_and]
def b1 (v : Nat) : Nat := v - (v / 2 &&& 1431655765)
def b2 (x : Nat) : Nat := (x &&& 858993459) + (x / 4 &&& 858993459)
def b3 (x : Nat) : Nat := x + x / 16 &&& 252645135
def g1 (v : Nat) : Nat := v - (v / 2 &&& 85)
def g2 (x : Nat) : Nat := (x &&& 51) + (x / 4 &&& 51)
def g3 (x : Nat) : Nat := x + x / 16 &&& 15
theorem c1 : ∀ a, a < 256 → ∀ z, z < 2 → ((a / 2 + 128 * z) &&& 85) = (a / 2 &&& 85) := by decide +kernel
theorem c2 : ∀ a, a < 256 → ∀ z, z < 4 → ((a / 4 + 64 * z) &&& 51) = (a / 4 &&& 51) := by decide +kernel
theorem c3 : ∀ a, a < 69 → ∀ z, z < 5 → ((a + a / 16 + 16 * z) &&& 15) = (a + a / 16 &&& 15) := by decide +kernel
theorem d1 : ∀ a, a < 256 → g1 a < 256 ∧ g2 (g1 a) < 69 ∧ g2 (g1 a) % 16 < 5 ∧ g3 (g2 (g1 a)) = sm (fun k => a / 2 ^ k % 2) 0 8 ∧ g3 (g2 (g1 a)) ≤ 8 := by decide +kernel
theorem s1 {a y M : Nat} (ha : a < 256) : a + 256 * y - ((a + 256 * y) / 2 &&& (85 + 256 * M)) = g1 a + 256 * (y - (y / 2 &&& M)) := by
  rw [show (a + 256 * y) / 2 = (a / 2 + 128 * (y % 2)) + 256 * (y / 2) by omega, and_split (by omega) (by decide), c1 a ha _ (Nat.mod_lt _ (by decide))]
  have h1 : (a / 2 &&& 85) ≤ a / 2 := Nat.and_le_left
  have h2 : (y / 2 &&& M) ≤ y / 2 := Nat.and_le_left
  unfold g1
  omega
theorem s2 {a y M : Nat} (ha : a < 256) : ((a + 256 * y) &&& (51 + 256 * M)) + ((a + 256 * y) / 4 &&& (51 + 256 * M)) = g2 a + 256 * ((y &&& M) + (y / 4 &&& M)) := by
  rw [show (a + 256 * y) / 4 = (a / 4 + 64 * (y % 4)) + 256 * (y / 4) by omega, and_split ha (by decide), and_split (by omega) (by decide), c2 a ha _ (Nat.mod_lt _ (by decide))]
  unfold g2
  omega
theorem s3 {a y M : Nat} (ha : a < 69) (hy : y % 16 < 5) : (a + 256 * y + (a + 256 * y) / 16) &&& (15 + 256 * M) = g3 a + 256 * (y + y / 16 &&& M) := by
  rw [show a + 256 * y + (a + 256 * y) / 16 = (a + a / 16 + 16 * (y % 16)) + 256 * (y + y / 16) by omega, and_split (by omega) (by decide), c3 a ha _ hy]
  rfl
theorem sm_add (f : Nat → Nat) (n : Nat) : ∀ m, sm f 0 (n + m) = sm f 0 n + sm (fun i => f (n + i)) 0 m
  | 0 => rfl
  | m + 1 => by
    show sm f 0 (n + m) + f (0 + (n + m)) = sm f 0 n + (sm (fun i => f (n + i)) 0 m + f (n + (0 + m)))
    rw [sm_add f n m, Nat.zero_add, Nat.zero_add]
    omega
theorem sm_cong {f g : Nat → Nat} : ∀ n, (∀ i, i < n → f i = g i) → sm f 0 n = sm g 0 n
  | 0, _ => rfl
  | n + 1, h => by
    unfold sm
    rw [sm_cong n (fun i hi => h i (by omega)), Nat.zero_add, h n (by omega)]
theorem p8_bit (x : Nat) : ∀ k, k < 8 → x / 2 ^ k % 2 = x % 256 / 2 ^ k % 2 := by
  intro k hk
  rcases (show k = 0 ∨ k = 1 ∨ k = 2 ∨ k = 3 ∨ k = 4 ∨ k = 5 ∨ k = 6 ∨ k = 7 by omega) with rfl | rfl | rfl | rfl | rfl | rfl | rfl | rfl <;> simp only [Nat.reducePow] <;> omega
theorem p8_up (x a k : Nat) : x / 2 ^ (a + k) % 2 = x / 2 ^ a / 2 ^ k % 2 := by rw [Nat.pow_add, Nat.div_div_eq_div_mul]
theorem pop_split {v : Nat} (hv : v < 2 ^ 24) : pop v = sm (fun k => (v % 256) / 2 ^ k % 2) 0 8 + sm (fun k => (v / 256 % 256) / 2 ^ k % 2) 0 8 + sm (fun k => (v / 65536) / 2 ^ k % 2) 0 8 := by
  unfold pop
  rw [show 24 = 8 + 8 + 8 from rfl, sm_add _ (8 + 8) 8, sm_add _ 8 8]
  rw [sm_cong 8 (fun k hk => p8_bit v k hk)]
  rw [sm_cong (f := fun i => v / 2 ^ (8 + i) % 2) (g := fun k => (v / 256 % 256) / 2 ^ k % 2) 8 (fun k hk => by rw [p8_up]; exact p8_bit (v / 256) k hk)]
  rw [sm_cong (f := fun i => v / 2 ^ (8 + 8 + i) % 2) (g := fun k => (v / 65536) / 2 ^ k % 2) 8 (fun k hk => by rw [p8_up])]
theorem bc_pop {v : Nat} (hv : v < 2 ^ 24) : (b3 (b2 (b1 v)) + b3 (b2 (b1 v)) / 256 + (b3 (b2 (b1 v)) + b3 (b2 (b1 v)) / 256) / 65536) &&& 63 = pop v := by
  obtain ⟨a, b, c, ha, hb, hc, hE⟩ : ∃ a b c, a < 256 ∧ b < 256 ∧ c < 256 ∧ v = a + 256 * (b + 256 * c) := ⟨v % 256, v / 256 % 256, v / 65536, by omega, by omega, by omega, by omega⟩
  have k1 : b1 v = g1 a + 256 * (g1 b + 256 * g1 c) := by
    unfold b1
    rw [hE, show (1431655765 : Nat) = 85 + 256 * (85 + 256 * (85 + 256 * 85)) from rfl, s1 ha, s1 hb]
    have := s1 (y := 0) (M := 85) hc
    rw [Nat.mul_zero, Nat.add_zero] at this
    rw [this]
    rfl
  obtain ⟨a1, a2, a3, a4, a5⟩ := d1 a ha
  obtain ⟨e1, e2, e3, e4, e5⟩ := d1 b hb
  obtain ⟨f1, f2, f3, f4, f5⟩ := d1 c hc
  have k2 : b2 (b1 v) = g2 (g1 a) + 256 * (g2 (g1 b) + 256 * g2 (g1 c)) := by
    unfold b2
    rw [k1, show (858993459 : Nat) = 51 + 256 * (51 + 256 * (51 + 256 * 51)) from rfl, s2 a1, s2 e1]
    have := s2 (y := 0) (M := 51) f1
    rw [Nat.mul_zero, Nat.add_zero] at this
    rw [this]
    rfl
  have k3 : b3 (b2 (b1 v)) = g3 (g2 (g1 a)) + 256 * (g3 (g2 (g1 b)) + 256 * g3 (g2 (g1 c))) := by
    unfold b3
    rw [k2, show (252645135 : Nat) = 15 + 256 * (15 + 256 * (15 + 256 * 15)) from rfl, s3 a2 (by omega), s3 e2 (by omega)]
    have := s3 (y := 0) (M := 15) f2 (by decide)
    rw [Nat.mul_zero, Nat.add_zero] at this
    rw [this]
    rfl
  rw [k3, pop_split hv, show v % 256 = a by omega, show v / 256 % 256 = b by omega, show v / 65536 = c by omega, ← a4, ← e4, ← f4]
  generalize g3 (g2 (g1 a)) = x at a5
  generalize g3 (g2 (g1 b)) = y at e5
  generalize g3 (g2 (g1 c)) = z at f5
  have hm : ∀ n, n &&& 63 = n % 64 := fun n => Nat.and_two_pow_sub_one_eq_mod n 6
  clear k1 k2 k3 hE
  have t1 : (x + 256 * (y + 256 * z)) / 256 = y + 256 * z := by omega
  rw [t1]
  have t2 : (x + 256 * (y + 256 * z) + (y + 256 * z)) / 65536 = z := by omega
  rw [t2, hm]
  omega
theorem nI_and {a b : Nat} (ha : a < 2 ^ 32) (hb : b < 2 ^ 32) : nI a &&& nI b = nI (a &&& b) := by
  refine i32_small ?_
  rw [Int32.toBitVec_and, BitVec.toNat_and, pk_tn ha, pk_tn hb]
