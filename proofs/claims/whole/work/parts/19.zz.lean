/-! Ways that come to no piece twice: the reference's stack of passages. f k: one more than the passage at depth k. -/
def lvB (S : Nat → Nat → Nat) (a dp : Nat) (f : Nat → Nat) (e : Nat) : Bool := if dp = 0 then (decide (e / 2 = a) && (decide (e % 2 = 1) || decide (S 4 a = 1))) else decide (e = fl (S 8 (f (dp - 1) - 1)))
def snB (S : Nat → Nat → Nat) (a dp : Nat) (f : Nat → Nat) (p : Nat) : Bool := decide (p = a) || anyB (fun k => decide (S 8 (f k - 1) / 2 = p)) dp
def msB (S : Nat → Nat → Nat) (o : Nat → Bool) (a dp : Nat) (f : Nat → Nat) (w : Nat) : Bool := o w && lvB S a dp f (S 7 w) && !snB S a dp f (S 8 w / 2)
theorem snB_o {S : Nat → Nat → Nat} {a dp p v : Nat} {f : Nat → Nat} (h : v = bN (snB S a dp f p)) (h2 : 0 < v) : 1 = bN (snB S a (dp + 1) f p) := by
  rw [h] at h2
  have h3 := bN_pos h2
  unfold snB at h3 ⊢
  show 1 = bN (decide (p = a) || (anyB (fun k => decide (S 8 (f k - 1) / 2 = p)) dp || decide (S 8 (f dp - 1) / 2 = p)))
  rw [← Bool.or_assoc, h3]
  rfl
theorem snB_y {S : Nat → Nat → Nat} {a dp p : Nat} {f : Nat → Nat} (h3 : S 8 (f dp - 1) / 2 = p) : 1 = bN (snB S a (dp + 1) f p) := by
  unfold snB
  show 1 = bN (decide (p = a) || (anyB (fun k => decide (S 8 (f k - 1) / 2 = p)) dp || decide (S 8 (f dp - 1) / 2 = p)))
  rw [decide_eq_true h3, Bool.or_true, Bool.or_true]
  rfl
theorem snB_n {S : Nat → Nat → Nat} {a dp p v : Nat} {f : Nat → Nat} (h : v = bN (snB S a dp f p)) (h2 : v = 0) (h3 : S 8 (f dp - 1) / 2 ≠ p) : 0 = bN (snB S a (dp + 1) f p) := by
  rw [h] at h2
  have h4 := bN_zero h2
  unfold snB at h4 ⊢
  show 0 = bN (decide (p = a) || (anyB (fun k => decide (S 8 (f k - 1) / 2 = p)) dp || decide (S 8 (f dp - 1) / 2 = p)))
  rw [← Bool.or_assoc, h4, decide_eq_false h3]
  rfl
theorem snB_0 {S : Nat → Nat → Nat} {a p : Nat} {f : Nat → Nat} : snB S a 0 f p = decide (p = a) := by
  unfold snB
  show (decide (p = a) || false) = _
  rw [Bool.or_false]
theorem half2 (w : Nat) : 2 * (w / 2) + w % 2 = w := by omega
/-- the first from v on that is P, at most k tries -/
def nx (P : Nat → Bool) : Nat → Nat → Nat
  | 0, v => v
  | k + 1, v => if P v = true then v else nx P k (v + 1)
theorem nx_y {P : Nat → Bool} {k v : Nat} (h : P v = true) : nx P k v = v := by
  cases k with
  | zero => rfl
  | succ k => exact if_pos h
theorem nx_n {P : Nat → Bool} {k v : Nat} (h : ¬ P v = true) (hk : 0 < k) : nx P k v = nx P (k - 1) (v + 1) := by
  obtain ⟨j, rfl⟩ : ∃ j, k = j + 1 := ⟨k - 1, by omega⟩
  exact if_neg h
/-- a turn of the reference's loop: D is the depth and one more, f the stack, n the count -/
def pst (S : Nat → Nat → Nat) (o : Nat → Bool) (a t mo : Nat) (s : Nat × (Nat → Nat) × Nat) : Nat × (Nat → Nat) × Nat :=
  let d := s.1 - 1
  let w := nx (msB S o a d s.2.1) (S 0 1 - s.2.1 d) (s.2.1 d)
  let g := up1 s.2.1 d (w + 1)
  if w = S 0 1 then (d, g, s.2.2) else if S 8 w / 2 = t then (d + 1, g, s.2.2 + 1) else if d < mo then (d + 2, up1 g (d + 1) 0, s.2.2) else (d + 1, g, s.2.2)
def prn (S : Nat → Nat → Nat) (o : Nat → Bool) (a t mo : Nat) : Nat → Nat × (Nat → Nat) × Nat → Option Nat
  | 0, _ => none
  | j + 1, s => if s.1 = 0 then some s.2.2 else prn S o a t mo j (pst S o a t mo s)
/-- the ways from depth dp on, the passage there at least v, g levels more -/
def cw (S : Nat → Nat → Nat) (o : Nat → Bool) (a t : Nat) : Nat → Nat → (Nat → Nat) → Nat → Nat
  | 0, dp, f, v => sm (fun w => if msB S o a dp f w = true then (if S 8 w / 2 = t then 1 else 0) else 0) v (S 0 1 - v)
  | g + 1, dp, f, v => sm (fun w => if msB S o a dp f w = true then (if S 8 w / 2 = t then 1 else cw S o a t g (dp + 1) (up1 f dp (w + 1)) 0) else 0) v (S 0 1 - v)
theorem sm_head (f : Nat → Nat) (a : Nat) : ∀ n, sm f a (n + 1) = f a + sm f (a + 1) n
  | 0 => by show 0 + f (a + 0) = f a + 0; rw [Nat.add_zero]; omega
  | n + 1 => by
    have ih := sm_head f a n
    show sm f a (n + 1) + f (a + (n + 1)) = f a + (sm f (a + 1) n + f (a + 1 + n))
    rw [ih, show a + (n + 1) = a + 1 + n by omega]
    omega
theorem anyB_cg {f g : Nat → Bool} : ∀ n, (∀ i, i < n → f i = g i) → anyB f n = anyB g n
  | 0, _ => rfl
  | n + 1, h => by
    unfold anyB
    rw [anyB_cg n (fun i hi => h i (by omega)), h n (by omega)]
theorem msB_cg {S : Nat → Nat → Nat} {o : Nat → Bool} {a dp : Nat} {f g : Nat → Nat} (h : ∀ k, k < dp → f k = g k) : msB S o a dp f = msB S o a dp g := by
  funext w
  unfold msB lvB snB
  rw [anyB_cg dp (fun i hi => by rw [h i hi])]
  by_cases z : dp = 0
  · rw [if_pos z, if_pos z]
  · rw [if_neg z, if_neg z, h (dp - 1) (by omega)]
theorem cw_cg {S : Nat → Nat → Nat} {o : Nat → Bool} {a t : Nat} : ∀ (g dp : Nat) (f f' : Nat → Nat) (v : Nat), (∀ k, k < dp → f k = f' k) → cw S o a t g dp f v = cw S o a t g dp f' v
  | 0, dp, f, f', v, h => by
    unfold cw
    rw [msB_cg h]
  | g + 1, dp, f, f', v, h => by
    unfold cw
    rw [msB_cg h]
    refine congrArg (fun F => sm F v (S 0 1 - v)) (funext fun w => ?_)
    rw [cw_cg g (dp + 1) (up1 f dp (w + 1)) (up1 f' dp (w + 1)) 0 (fun k hk => by
      unfold up1
      split
      · rfl
      · exact h k (by omega))]
theorem nx_le {P : Nat → Bool} : ∀ k v, v ≤ nx P k v ∧ nx P k v ≤ v + k ∧ (nx P k v < v + k → P (nx P k v) = true) ∧ ∀ i, v ≤ i → i < nx P k v → ¬ P i = true
  | 0, v => ⟨Nat.le_refl _, Nat.le_refl _, fun h => absurd h (by unfold nx; omega), fun i h1 h2 => absurd h2 (by unfold nx; omega)⟩
  | k + 1, v => by
    unfold nx
    by_cases z : P v = true
    · rw [if_pos z]
      exact ⟨Nat.le_refl _, by omega, fun _ => z, fun i h1 h2 => absurd h2 (by omega)⟩
    · rw [if_neg z]
      obtain ⟨h1, h2, h3, h4⟩ := nx_le (P := P) k (v + 1)
      refine ⟨by omega, by omega, fun h => h3 (by omega), fun i i1 i2 => ?_⟩
      by_cases y : i = v
      · rw [y]; exact z
      · exact h4 i (by omega) i2
theorem sm_skip {F : Nat → Nat} : ∀ (n v w : Nat), v ≤ w → w ≤ v + n → (∀ i, v ≤ i → i < w → F i = 0) → sm F v n = sm F w (v + n - w)
  | 0, v, w, h1, h2, _ => by
    rw [show w = v by omega, show v + 0 - v = 0 by omega]
  | n + 1, v, w, h1, h2, h => by
    by_cases z : w = v
    · rw [z, show v + (n + 1) - v = n + 1 by omega]
    · rw [sm_head, h v (Nat.le_refl _) (by omega), Nat.zero_add, sm_skip n (v + 1) w (by omega) (by omega) (fun i i1 i2 => h i (by omega) i2)]
      rw [show v + 1 + n - w = v + (n + 1) - w by omega]
/-- the loop comes to its end with the count -/
theorem prn_cw {S : Nat → Nat → Nat} {o : Nat → Bool} {a t mo : Nat} {T : Nat} : ∀ (g dp : Nat), dp + g = mo → ∀ (k v n : Nat) (f : Nat → Nat), S 0 1 - v ≤ k → v ≤ S 0 1 → f dp = v → (∀ f', (∀ i, i < dp → f' i = f i) → ∃ j, prn S o a t mo j (dp, f', n + cw S o a t g dp f v) = some T) → ∃ j, prn S o a t mo j (dp + 1, f, n) = some T := by
  intro g
  induction g with
  | zero =>
    intro dp hm k
    induction k with
    | zero =>
      intro v n f hk hv hf K
      have hE : v = S 0 1 := by omega
      obtain ⟨j, hj⟩ := K (up1 f dp (S 0 1 + 1)) (fun i hi => up1_ne _ _ (by omega))
      refine ⟨j + 1, ?_⟩
      show (if dp + 1 = 0 then some n else prn S o a t mo j (pst S o a t mo (dp + 1, f, n))) = some T
      rw [if_neg (by omega)]
      have hp : pst S o a t mo (dp + 1, f, n) = (dp, up1 f dp (S 0 1 + 1), n) := by
        unfold pst
        simp only [Nat.add_sub_cancel, hf, hE, Nat.sub_self, nx, if_true]
      have hc : cw S o a t 0 dp f v = 0 := by
        unfold cw
        rw [hE, Nat.sub_self]
        rfl
      rw [hp]
      rw [hc, Nat.add_zero] at hj
      exact hj
    | succ k ih =>
      intro v n f hk hv hf K
      obtain ⟨n1, n2, n3, n4⟩ := nx_le (P := msB S o a dp f) (S 0 1 - v) v
      generalize hw : nx (msB S o a dp f) (S 0 1 - v) v = w at n1 n2 n3 n4
      have hst : ∀ F : Nat → Nat, (∀ i, msB S o a dp f i = false → F i = 0) → sm F v (S 0 1 - v) = sm F w (S 0 1 - w) := fun F hF => by
        rw [sm_skip (S 0 1 - v) v w n1 n2 (fun i i1 i2 => hF i (by have := n4 i i1 i2; simpa using this)), show v + (S 0 1 - v) - w = S 0 1 - w by omega]
      by_cases zE : w = S 0 1
      · obtain ⟨j, hj⟩ := K (up1 f dp (S 0 1 + 1)) (fun i hi => up1_ne _ _ (by omega))
        refine ⟨j + 1, ?_⟩
        show (if dp + 1 = 0 then some n else prn S o a t mo j (pst S o a t mo (dp + 1, f, n))) = some T
        rw [if_neg (by omega)]
        have hp : pst S o a t mo (dp + 1, f, n) = (dp, up1 f dp (S 0 1 + 1), n) := by
          unfold pst
          simp only [Nat.add_sub_cancel, hf, hw, zE, if_true]
        have hc : cw S o a t 0 dp f v = 0 := by
          unfold cw
          rw [hst _ (fun i hi => by rw [hi]; rfl), zE, Nat.sub_self]
          rfl
        rw [hp]
        rw [hc, Nat.add_zero] at hj
        exact hj
      · have hP : msB S o a dp f w = true := n3 (by omega)
        have hcg : ∀ i, i < dp → up1 f dp (w + 1) i = f i := fun i hi => up1_ne _ _ (by omega)
        have hsum : cw S o a t 0 dp f v = (if S 8 w / 2 = t then 1 else 0) + cw S o a t 0 dp (up1 f dp (w + 1)) (w + 1) := by
          rw [cw_cg 0 dp (up1 f dp (w + 1)) f (w + 1) hcg]
          unfold cw
          rw [hst _ (fun i hi => by rw [hi]; rfl), show S 0 1 - w = (S 0 1 - (w + 1)) + 1 by omega, sm_head]
          simp only [hP, if_true]
        have hmo : dp = mo := by omega
        have hp : pst S o a t mo (dp + 1, f, n) = (dp + 1, up1 f dp (w + 1), n + (if S 8 w / 2 = t then 1 else 0)) := by
          unfold pst
          simp only [Nat.add_sub_cancel, hf, hw, if_neg zE]
          by_cases y : S 8 w / 2 = t
          · rw [if_pos y, if_pos y]
          · rw [if_neg y, if_neg y, if_neg (show ¬ dp < mo by omega)]
            rfl
        obtain ⟨j, hj⟩ := ih (w + 1) (n + (if S 8 w / 2 = t then 1 else 0)) (up1 f dp (w + 1)) (by omega) (by omega) (up1_same _ _ _) (fun f' hf' => by
          obtain ⟨j, hj⟩ := K f' (fun i hi => (hf' i hi).trans (hcg i hi))
          refine ⟨j, ?_⟩
          rw [hsum, ← Nat.add_assoc] at hj
          exact hj)
        refine ⟨j + 1, ?_⟩
        show (if dp + 1 = 0 then some n else prn S o a t mo j (pst S o a t mo (dp + 1, f, n))) = some T
        rw [if_neg (by omega), hp]
        exact hj
  | succ g ihg =>
    intro dp hm k
    induction k with
    | zero =>
      intro v n f hk hv hf K
      have hE : v = S 0 1 := by omega
      obtain ⟨j, hj⟩ := K (up1 f dp (S 0 1 + 1)) (fun i hi => up1_ne _ _ (by omega))
      refine ⟨j + 1, ?_⟩
      show (if dp + 1 = 0 then some n else prn S o a t mo j (pst S o a t mo (dp + 1, f, n))) = some T
      rw [if_neg (by omega)]
      have hp : pst S o a t mo (dp + 1, f, n) = (dp, up1 f dp (S 0 1 + 1), n) := by
        unfold pst
        simp only [Nat.add_sub_cancel, hf, hE, Nat.sub_self, nx, if_true]
      have hc : cw S o a t (g + 1) dp f v = 0 := by
        unfold cw
        rw [hE, Nat.sub_self]
        rfl
      rw [hp]
      rw [hc, Nat.add_zero] at hj
      exact hj
    | succ k ih =>
      intro v n f hk hv hf K
      obtain ⟨n1, n2, n3, n4⟩ := nx_le (P := msB S o a dp f) (S 0 1 - v) v
      generalize hw : nx (msB S o a dp f) (S 0 1 - v) v = w at n1 n2 n3 n4
      have hst : ∀ F : Nat → Nat, (∀ i, msB S o a dp f i = false → F i = 0) → sm F v (S 0 1 - v) = sm F w (S 0 1 - w) := fun F hF => by
        rw [sm_skip (S 0 1 - v) v w n1 n2 (fun i i1 i2 => hF i (by have := n4 i i1 i2; simpa using this)), show v + (S 0 1 - v) - w = S 0 1 - w by omega]
      by_cases zE : w = S 0 1
      · obtain ⟨j, hj⟩ := K (up1 f dp (S 0 1 + 1)) (fun i hi => up1_ne _ _ (by omega))
        refine ⟨j + 1, ?_⟩
        show (if dp + 1 = 0 then some n else prn S o a t mo j (pst S o a t mo (dp + 1, f, n))) = some T
        rw [if_neg (by omega)]
        have hp : pst S o a t mo (dp + 1, f, n) = (dp, up1 f dp (S 0 1 + 1), n) := by
          unfold pst
          simp only [Nat.add_sub_cancel, hf, hw, zE, if_true]
        have hc : cw S o a t (g + 1) dp f v = 0 := by
          unfold cw
          rw [hst _ (fun i hi => by rw [hi]; rfl), zE, Nat.sub_self]
          rfl
        rw [hp]
        rw [hc, Nat.add_zero] at hj
        exact hj
      · have hP : msB S o a dp f w = true := n3 (by omega)
        have hcg : ∀ i, i < dp → up1 f dp (w + 1) i = f i := fun i hi => up1_ne _ _ (by omega)
        have hsum : cw S o a t (g + 1) dp f v = (if S 8 w / 2 = t then 1 else cw S o a t g (dp + 1) (up1 f dp (w + 1)) 0) + cw S o a t (g + 1) dp (up1 f dp (w + 1)) (w + 1) := by
          rw [cw_cg (g + 1) dp (up1 f dp (w + 1)) f (w + 1) hcg]
          conv => lhs; unfold cw
          conv => rhs; rhs; unfold cw
          rw [hst _ (fun i hi => by rw [hi]; rfl), show S 0 1 - w = (S 0 1 - (w + 1)) + 1 by omega, sm_head]
          simp only [hP, if_true]
        have next : ∀ n' : Nat, (∀ f', (∀ i, i < dp → f' i = f i) → ∃ j, prn S o a t mo j (dp, f', n' + cw S o a t (g + 1) dp (up1 f dp (w + 1)) (w + 1)) = some T) → ∀ f', (∀ i, i < dp + 1 → f' i = up1 f dp (w + 1) i) → ∃ j, prn S o a t mo j (dp + 1, f', n') = some T := by
          intro n' K' f' hf'
          refine ih (w + 1) n' f' (by omega) (by omega) (by rw [hf' dp (by omega)]; exact up1_same _ _ _) (fun f'' hf'' => ?_)
          obtain ⟨j, hj⟩ := K' f'' (fun i hi => (hf'' i hi).trans ((hf' i (by omega)).trans (hcg i hi)))
          refine ⟨j, ?_⟩
          rw [cw_cg (g + 1) dp f' (up1 f dp (w + 1)) (w + 1) (fun i hi => hf' i (by omega))]
          exact hj
        by_cases y : S 8 w / 2 = t
        · have hp : pst S o a t mo (dp + 1, f, n) = (dp + 1, up1 f dp (w + 1), n + 1) := by
            unfold pst
            simp only [Nat.add_sub_cancel, hf, hw, if_neg zE, if_pos y]
          obtain ⟨j, hj⟩ := next (n + 1) (fun f' hf' => by
            obtain ⟨j, hj⟩ := K f' hf'
            refine ⟨j, ?_⟩
            rw [hsum, if_pos y, ← Nat.add_assoc] at hj
            exact hj) (up1 f dp (w + 1)) (fun _ _ => rfl)
          refine ⟨j + 1, ?_⟩
          show (if dp + 1 = 0 then some n else prn S o a t mo j (pst S o a t mo (dp + 1, f, n))) = some T
          rw [if_neg (by omega), hp]
          exact hj
        · have hp : pst S o a t mo (dp + 1, f, n) = (dp + 2, up1 (up1 f dp (w + 1)) (dp + 1) 0, n) := by
            unfold pst
            simp only [Nat.add_sub_cancel, hf, hw, if_neg zE, if_neg y]
            rw [if_pos (by omega)]
          obtain ⟨j, hj⟩ := ihg (dp + 1) (by omega) (S 0 1) 0 n (up1 (up1 f dp (w + 1)) (dp + 1) 0) (by omega) (Nat.zero_le _) (up1_same _ _ _) (fun f' hf' => by
            refine next _ (fun f'' hf'' => ?_) f' (fun i hi => (hf' i hi).trans (up1_ne _ _ (by omega)))
            obtain ⟨j, hj⟩ := K f'' hf''
            refine ⟨j, ?_⟩
            rw [hsum, if_neg y, ← Nat.add_assoc] at hj
            rw [cw_cg g (dp + 1) (up1 (up1 f dp (w + 1)) (dp + 1) 0) (up1 f dp (w + 1)) 0 (fun i hi => up1_ne _ _ (by omega))]
            exact hj)
          refine ⟨j + 1, ?_⟩
          show (if dp + 1 = 0 then some n else prn S o a t mo j (pst S o a t mo (dp + 1, f, n))) = some T
          rw [if_neg (by omega), hp]
          exact hj
/-- .. from the beginning -/
theorem prn_all {S : Nat → Nat → Nat} {o : Nat → Bool} {a t mo : Nat} {f : Nat → Nat} (hf : f 0 = 0) : ∃ j, prn S o a t mo j (1, f, 0) = some (cw S o a t mo 0 f 0) := by
  refine prn_cw mo 0 (by omega) (S 0 1) 0 0 f (by omega) (Nat.zero_le _) hf (fun f' _ => ⟨1, ?_⟩)
  rw [Nat.zero_add]
  rfl
section MS
variable {S : Nat → Nat → Nat} {o : Nat → Bool} {a dp w v i : Nat} {F : Nat → Nat}
theorem ms_f1 (h : bN (o w) = 0) : nI 0 = nI (bN (msB S o a dp F w)) := bN0 (by unfold msB; rw [bN_zero h]; rfl)
theorem ms_f2 (hv : v = bN (lvB S a dp F (S 7 w))) (h : v = 0) : nI 0 = nI (bN (msB S o a dp F w)) := bN0 (by unfold msB; rw [bN_zero (hv.symm.trans h), Bool.and_false]; rfl)
theorem ms_f3 (hv : v = bN (snB S a i F (S 8 w / 2))) (hi : i = dp) (h : 0 < v) : nI 0 = nI (bN (msB S o a dp F w)) := bN0 (by
  subst hi
  rw [hv] at h
  unfold msB
  rw [bN_pos h, Bool.not_true, Bool.and_false])
theorem ms_t {u : Nat} (h : 0 < bN (o w)) (hu : u = bN (lvB S a dp F (S 7 w))) (h2 : 0 < u) (hv : v = bN (snB S a i F (S 8 w / 2))) (hi : i = dp) (h3 : v = 0) : nI 1 = nI (bN (msB S o a dp F w)) := bN1 (by
  subst hi
  rw [hu] at h2
  unfold msB
  rw [bN_pos h, bN_pos h2, bN_zero (hv.symm.trans h3)]
  rfl)
end MS
section PS
variable {S : Nat → Nat → Nat} {o : Nat → Bool} {a t mo D0 n w E : Nat} {f : Nat → Nat} {Y : Nat → Nat → Nat}
theorem pstA (hw : nx (msB S o a (D0 - 1) f) (S 0 1 - f (D0 - 1)) (f (D0 - 1)) = w) (hE : w = S 0 1) : pst S o a t mo (D0, f, n) = (D0 - 1, up1 f (D0 - 1) (w + 1), n) := by
  unfold pst
  simp only [hw]
  rw [if_pos hE]
theorem pstB (hD : 0 < D0) (hw : nx (msB S o a (D0 - 1) f) (S 0 1 - f (D0 - 1)) (f (D0 - 1)) = w) (hE : w ≠ S 0 1) (ht : S 8 w / 2 = t) : pst S o a t mo (D0, f, n) = (D0, up1 f (D0 - 1) (w + 1), n + 1) := by
  unfold pst
  simp only [hw]
  rw [if_neg hE, if_pos ht, show D0 - 1 + 1 = D0 by omega]
theorem pstC (hD : 0 < D0) (hw : nx (msB S o a (D0 - 1) f) (S 0 1 - f (D0 - 1)) (f (D0 - 1)) = w) (hE : w ≠ S 0 1) (ht : S 8 w / 2 ≠ t) (hm : D0 - 1 < mo) : pst S o a t mo (D0, f, n) = (D0 + 1, up1 (up1 f (D0 - 1) (w + 1)) D0 0, n) := by
  unfold pst
  simp only [hw]
  rw [if_neg hE, if_neg ht, if_pos hm, show D0 - 1 + 2 = D0 + 1 by omega, show D0 - 1 + 1 = D0 by omega]
theorem pstD (hD : 0 < D0) (hw : nx (msB S o a (D0 - 1) f) (S 0 1 - f (D0 - 1)) (f (D0 - 1)) = w) (hE : w ≠ S 0 1) (ht : S 8 w / 2 ≠ t) (hm : ¬ D0 - 1 < mo) : pst S o a t mo (D0, f, n) = (D0, up1 f (D0 - 1) (w + 1), n) := by
  unfold pst
  simp only [hw]
  rw [if_neg hE, if_neg ht, if_neg hm, show D0 - 1 + 1 = D0 by omega]
theorem onS {v : Nat} (h : ∀ k, k + 1 < D0 → 0 < Y 2 k ∧ Y 2 k ≤ E) {k : Nat} (hk : k + 1 < D0) : 0 < (up2 Y 2 (D0 - 1) v) 2 k ∧ (up2 Y 2 (D0 - 1) v) 2 k ≤ E := by
  rw [up2_ne _ _ _ (show k ≠ D0 - 1 by omega)]
  exact h k hk
theorem onP (h : ∀ k, k + 1 < D0 → 0 < Y 2 k ∧ Y 2 k ≤ E) (hw : w < E) {k : Nat} (hk : k + 1 < D0 + 1) : 0 < (up2 (up2 Y 2 (D0 - 1) (w + 1)) 2 D0 0) 2 k ∧ (up2 (up2 Y 2 (D0 - 1) (w + 1)) 2 D0 0) 2 k ≤ E := by
  rw [up2_ne _ _ _ (show k ≠ D0 by omega)]
  by_cases z : k = D0 - 1
  · rw [z, up2_same]
    omega
  · rw [up2_ne _ _ _ z]
    exact h k (by omega)
theorem pI_dec (h : 0 < D0) : pI D0 + Int32.ofInt (-1) = pI (D0 - 1) := by
  obtain ⟨j, rfl⟩ : ∃ j, D0 = j + 1 := ⟨D0 - 1, by omega⟩
  rw [← pI_s]
  show nI j + Int32.ofInt (-1) = nI j - 1
  rw [Int32.sub_eq_add_neg]
  rfl
theorem pI_inc (D0 : Nat) : pI D0 + Int32.ofInt 1 = pI (D0 + 1) := by
  rw [← pI_s]
  show nI D0 - 1 + 1 = nI D0
  exact Int32.sub_add_cancel _ _
end PS
section NG
variable {p : Program} {l : Launch} {e : Env} {R : Room} {s : State} {m : MethodId} {args : Array Value} {below : List Frame} {meth : Method} {c : Code} {H : Heap} {locs : List Loc} {cells slots : Nat} {Q : State → Prop}
variable {cc : ByteArray} {pc : Nat} {ls : Array Slot} {rest : List Value}
theorem na_if_gt (hexec : p.tables.exec = Jvm.exec) (hb : c.code = cc) {x : Nat} {off : Int} {tgt : Nat} (hx : x < 2 ^ 31) (hdg : decode cc pc = .ok (.ifCond .gt off, 3)) (ht : (pc : Int) + off = (tgt : Int))
    (kt : 0 < x → W p l e R s m args below meth c H locs cells slots Q (F0 m tgt ls rest)) (kf : x = 0 → W p l e R s m args below meth c H locs cells slots Q (F0 m (pc + 3) ls rest)) : W p l e R s m args below meth c H locs cells slots Q (F0 m pc ls (.int (nI x) :: rest)) :=
  lv_if_gt hexec hb hdg ht (fun h => kt (Nat.pos_of_ne_zero fun q => by rw [q, nI_0] at h; exact absurd h (by decide))) (fun h => kf (Nat.eq_zero_of_not_pos fun q => h (by rw [← nI_0]; exact nI_lt q hx)))
end NG
