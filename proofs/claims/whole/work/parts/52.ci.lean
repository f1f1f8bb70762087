/-! The system's own memory between calls: passages by the end that they leave, the kept table; the two counts of ways are one. -/
theorem LV_S {S S' Z : Nat → Nat → Nat} (h : LV S Z) (h7 : S' 7 = S 7) (h1 : S' 0 1 = S 0 1) : LV S' Z := by
  intro e he
  rw [h7, h1]
  exact h e he
theorem LV_A {S Z : Nat → Nat → Nat} {a b t : Nat} (h : LV S Z) (hz : Z 3 a < 40) : LV (addA S a b t) (lv1 S Z a) := by
  intro e he
  obtain ⟨h1, h2, h3⟩ := h e he
  have s7 : ∀ p, (addA S a b t) 7 p = up1 (S 7) (S 0 1) a p := fun _ => rfl
  have s1 : (addA S a b t) 0 1 = S 0 1 + 1 := rfl
  have old : ∀ F : Nat → Nat, sm (fun p => if (addA S a b t) 7 p = e then F p else 0) 0 (S 0 1) = sm (fun p => if S 7 p = e then F p else 0) 0 (S 0 1) := fun F => sm_cong _ (fun i hi => by
    rw [s7, up1_ne _ _ (by omega)])
  by_cases z : e = a
  · subst z
    have r3 : (lv1 S Z e) 3 e = Z 3 e + 1 := up2_same _ _ _ _
    have rr : ∀ i, (lv1 S Z e) (10 + e) i = up1 (Z (10 + e)) (Z 3 e) (S 0 1) i := fun i => by
      unfold lv1
      rw [up2_row _ _ _ (by omega)]
      unfold up2
      rw [upR_same]
    refine ⟨fun F => ?_, fun i hi => ?_, by rw [r3]; exact hz⟩
    · rw [r3, s1, sm_s, sm_s, old F, ← h1 F, s7, up1_same, if_pos rfl, rr, up1_same]
      refine congrArg (· + F (S 0 1)) (sm_cong _ (fun i hi => ?_))
      rw [rr, up1_ne _ _ (by omega)]
    · rw [r3] at hi
      rw [rr, s1]
      unfold up1
      split
      · exact Nat.lt_succ_self _
      · exact Nat.lt_succ_of_lt (h2 i (by omega))
  · have r3 : (lv1 S Z a) 3 e = Z 3 e := by
      unfold lv1
      rw [up2_ne _ _ _ z, up2_row _ _ _ (by omega)]
    have rr : ∀ i, (lv1 S Z a) (10 + e) i = Z (10 + e) i := fun i => by
      unfold lv1
      rw [up2_row _ _ _ (by omega), up2_row _ _ _ (by omega)]
    refine ⟨fun F => ?_, fun i hi => ?_, by rw [r3]; exact h3⟩
    · rw [r3, s1, sm_s, old F, ← h1 F, s7, up1_same, if_neg (fun q => z q.symm), Nat.add_zero]
      exact sm_cong _ (fun i hi => by rw [rr])
    · rw [r3] at hi
      rw [rr, s1]
      exact Nat.lt_succ_of_lt (h2 i hi)
theorem LV_J {S Z : Nat → Nat → Nat} {a b t : Nat} (h : LV S Z) (hab : a ≠ b) (ha : Z 3 a < 40) (hb : Z 3 b < 40) : LV (addJ S a b t) (lv2 S Z a b t) := by
  have h1 := LV_A (b := b) (t := t) h ha
  have h2 := LV_A (S := addA S a b t) (a := b) (b := a) (t := t) h1 (by
    unfold lv1
    rw [up2_ne _ _ _ (fun q => hab q.symm), up2_row _ _ _ (by omega)]
    exact hb)
  exact LV_S h2 rfl rfl
/-- an end has at most one passage of each join -/
theorem LV_half {T : Nat} {S Z : Nat → Nat → Nat} {e : Nat} (hI : IV T S) (h : LV S Z) (he : e < 40) : 2 * Z 3 e ≤ S 0 1 := by
  have h1 := (h e he).1 (fun _ => 1)
  have hc : ∀ n, sm (fun _ => 1) 0 n = n := fun n => by
    induction n with
    | zero => rfl
    | succ n ih => rw [sm_s, ih]
  rw [hc] at h1
  have key : ∀ n, 2 * n ≤ S 0 1 → sm (fun p => if S 7 p = e then 1 else 0) 0 (2 * n) ≤ n := by
    intro n
    induction n with
    | zero => intro _; exact Nat.le_refl _
    | succ n ih =>
      intro hn
      have i1 := ih (by omega)
      have i2 := hI.1.2.2.2.2.1 (2 * n) (by omega)
      have i3 := hI.1.2.2.2.2.2.1 n
      rw [show 2 * (n + 1) = 2 * n + 1 + 1 by omega, sm_s, sm_s]
      by_cases z : S 7 (2 * n) = e
      · rw [if_pos z, if_neg (fun q => i2.2.2 (by rw [z, ← q, i3.1]))]
        omega
      · rw [if_neg z]
        split <;> omega
  have h2 := hI.1.1.2.2.1
  have h3 := key (S 0 1 / 2) (by omega)
  rw [show 2 * (S 0 1 / 2) = S 0 1 by omega] at h3
  omega
/-- what holds of the system's own memory -/
def CI (S Z : Nat → Nat → Nat) : Prop := (∀ p, Z 0 p ≤ 1) ∧ (∀ p, Z 2 p ≤ 1) ∧ LV S Z ∧ ∀ i, i < S 0 3 → S 13 i = S 0 4 → ∀ j, j < S 0 3 → Z (50 + i) j = secs S (S 11 0) 12 (S 12 i) (S 12 j)
/-- memory that differs in scratch alone -/
def ZR (Z Y : Nat → Nat → Nat) : Prop := (∀ p, Y 0 p ≤ 1) ∧ (∀ p, Y 2 p ≤ 1) ∧ ∀ f, 3 ≤ f → Y f = Z f
theorem CI_Z {S Z Y : Nat → Nat → Nat} (h : CI S Z) (hY : ZR Z Y) : CI S Y := by
  refine ⟨hY.1, hY.2.1, fun e he => ?_, fun i hi h4 j hj => ?_⟩
  · rw [hY.2.2 (10 + e) (by omega), hY.2.2 3 (by omega)]
    exact h.2.2.1 e he
  · rw [hY.2.2 (50 + i) (by omega)]
    exact h.2.2.2 i hi h4 j hj
theorem CI_n {S S' Z : Nat → Nat → Nat} (h : CI S Z) (hi : ∀ i, S 13 i ≤ S 0 4) (h7 : S' 7 = S 7) (h1 : S' 0 1 = S 0 1) (h13 : S' 13 = S 13) (h4 : S' 0 4 = S 0 4 + 1) : CI S' Z := by
  refine ⟨h.1, h.2.1, LV_S h.2.2.1 h7 h1, fun i _ q => ?_⟩
  rw [h13, h4] at q
  have := hi i
  omega
theorem CI_J {S Z : Nat → Nat → Nat} {a b t : Nat} (h : CI S Z) (hi : ∀ i, S 13 i ≤ S 0 4) (hab : a ≠ b) (ha : Z 3 a < 40) (hb : Z 3 b < 40) : CI (addJ S a b t) (lv2 S Z a b t) := by
  have r : ∀ f p, f < 3 → lv2 S Z a b t f p = Z f p := fun f p hf => by
    unfold lv2 lv1
    rw [up2_row _ _ _ (by omega), up2_row _ _ _ (by omega), up2_row _ _ _ (by omega), up2_row _ _ _ (by omega)]
  refine ⟨fun p => by rw [r 0 p (by decide)]; exact h.1 p, fun p => by rw [r 2 p (by decide)]; exact h.2.1 p, LV_J h.2.2.1 hab ha hb, fun i _ q => ?_⟩
  have q : S 13 i = S 0 4 + 1 := q
  have := hi i
  omega
theorem CI_k {S S' Z : Nat → Nat → Nat} (h : CI S Z) (hA : Alk S S') (h3 : S' 0 3 = S 0 3) (h4 : S' 0 4 = S 0 4) (h11 : S' 11 = S 11) (h12 : S' 12 = S 12) (h13 : S' 13 = S 13) : CI S' Z := by
  refine ⟨h.1, h.2.1, LV_S h.2.2.1 hA.2.2.2.2.2.2.2.1 hA.2.1, fun i hi q j hj => ?_⟩
  rw [secs_S hA, h11, h12]
  rw [h3] at hi hj
  rw [h13, h4] at q
  exact h.2.2.2 i hi q j hj
theorem ZR_o {S Z : Nat → Nat → Nat} {w h : Nat} (h0 : ∀ p, Z 0 p ≤ 1) (h2 : ∀ p, Z 2 p ≤ 1) : ZR Z (dvO S Z w h) := ⟨fun p => dvO_le h0 p, h2, fun f hf => upR_ne _ _ (by omega)⟩
theorem ZR_d {S Z : Nat → Nat → Nat} {w h a : Nat} (h0 : ∀ p, Z 0 p ≤ 1) (h2 : ∀ p, Z 2 p ≤ 1) : ZR Z (dvZ S Z w h a) := ⟨fun p => dvZ_0 h0 p, h2, fun f hf => by
  unfold dvZ dvO
  rw [upR_ne _ _ (by omega), upR_ne _ _ (by omega)]⟩
theorem ZR_2 {Z Y : Nat → Nat → Nat} {A : Nat → Nat} (h : ZR Z Y) (hA : ∀ p, A p ≤ 1) : ZR Z (upR Y 2 A) := ⟨h.1, hA, fun f hf => by rw [upR_ne _ _ (by omega)]; exact h.2.2 f hf⟩
theorem dvZ_2 {S Z : Nat → Nat → Nat} {w h a b : Nat} : upR (dvZ S Z w h a) 1 (itr S (oZ (dvZ S Z w h a)) (rs S b (fun _ => 1000000)) 40) = dvZ S Z w h b := by
  unfold dvZ
  rw [upR_upR]
  rfl
theorem sTo_S {S S' : Nat → Nat → Nat} (h : Alk S S') : sTo S' = sTo S := by
  funext o r a t
  unfold sTo
  rw [lpB_S h, h.2.1]
/-- the table's row i worked -/
theorem CI_w {S Z Y : Nat → Nat → Nat} {k : Nat} (h : CI S Z) (hY : ZR Z Y) : CI (up2 (up2 S 13 k (S 0 4)) 0 5 (S 0 5 + 1)) (upR Y (50 + k) (fun j => if j < S 0 3 then secs S (S 11 0) 12 (S 12 k) (S 12 j) else Y (50 + k) j)) := by
  have h9 := CI_Z h hY
  refine ⟨fun p => by rw [upR_ne _ _ (by omega)]; exact hY.1 p, fun p => by rw [upR_ne _ _ (by omega)]; exact hY.2.1 p, LV_S (S := S) (fun e he => ?_) rfl rfl, fun i hi q j hj => ?_⟩
  · rw [upR_ne _ _ (by omega), upR_ne _ _ (by omega)]
    exact h9.2.2.1 e he
  · rw [secs_S Alk_tb]
    show upR Y (50 + k) _ (50 + i) j = secs S (S 11 0) 12 (S 12 i) (S 12 j)
    have hj : j < S 0 3 := hj
    by_cases z : i = k
    · subst z
      rw [upR_same]
      exact if_pos hj
    · rw [upR_ne _ _ (by omega)]
      refine h9.2.2.2 i hi ?_ j hj
      have q : up1 (S 13) k (S 0 4) i = S 0 4 := q
      rw [up1_ne _ _ z] at q
      exact q
/-! the reference's count of ways is the system's -/
theorem ite3 {b1 b2 b3 : Bool} {p q : Prop} [Decidable p] [Decidable q] {X Y : Nat} (h1 : b2 = true ↔ p) (h2 : b3 = false ↔ q) (hX : X = Y) : (if (b1 && b2 && !b3) = true then X else 0) = (if p then (if b1 = true ∧ q then Y else 0) else 0) := by
  subst hX
  by_cases hp : p <;> by_cases hq : q
  · rw [h1.mpr hp, h2.mpr hq, if_pos hp]
    cases b1 <;> simp [hq]
  · have h3 : b3 = true := by cases b3 with
      | true => rfl
      | false => exact absurd (h2.mp rfl) hq
    rw [h3, if_pos hp]
    cases b1 <;> cases b2 <;> simp [hq]
  · have h3 : b2 = false := by cases b2 with
      | false => rfl
      | true => exact absurd (h1.mp rfl) hp
    rw [h3, if_neg hp]
    cases b1 <;> simp
  · have h3 : b2 = false := by cases b2 with
      | false => rfl
      | true => exact absurd (h1.mp rfl) hp
    rw [h3, if_neg hp]
    cases b1 <;> simp
theorem snB_next {S : Nat → Nat → Nat} {a dp w p : Nat} {f : Nat → Nat} : snB S a (dp + 1) (up1 f dp (w + 1)) p = (snB S a dp f p || decide (S 8 w / 2 = p)) := by
  unfold snB
  show (decide (p = a) || (anyB (fun k => decide (S 8 (up1 f dp (w + 1) k - 1) / 2 = p)) dp || decide (S 8 (up1 f dp (w + 1) dp - 1) / 2 = p))) = _
  rw [up1_same, Nat.add_sub_cancel, ← Bool.or_assoc, anyB_cg dp (fun i hi => by rw [up1_ne _ _ (show i ≠ dp by omega)])]
theorem met_next {S : Nat → Nat → Nat} {a dp w : Nat} {f met : Nat → Nat} (h : ∀ p, snB S a dp f p = false ↔ met p = 0) (p : Nat) : snB S a (dp + 1) (up1 f dp (w + 1)) p = false ↔ up1 met (S 8 w / 2) 1 p = 0 := by
  rw [snB_next]
  unfold up1
  by_cases z : p = S 8 w / 2
  · rw [if_pos z, decide_eq_true z.symm, Bool.or_true]
    exact ⟨fun q => absurd q (by decide), fun q => absurd q (by decide)⟩
  · rw [if_neg z, decide_eq_false (fun q => z q.symm), Bool.or_false]
    exact h p
theorem cw_cx {S : Nat → Nat → Nat} {o : Nat → Bool} {a t : Nat} : ∀ (g dp : Nat) (f met : Nat → Nat) (e : Nat), 0 < dp → e = fl (S 8 (f (dp - 1) - 1)) → (∀ p, snB S a dp f p = false ↔ met p = 0) → cw S o a t g dp f 0 = cx S o t g met e
  | 0, dp, f, met, e, hd, he, hm => by
    unfold cw cx
    rw [Nat.sub_zero]
    refine sm_cong _ (fun w _ => ?_)
    unfold msB
    refine ite3 ?_ (hm _) rfl
    unfold lvB
    rw [if_neg (by omega), decide_eq_true_iff, he]
  | g + 1, dp, f, met, e, hd, he, hm => by
    unfold cw cx
    rw [Nat.sub_zero]
    refine sm_cong _ (fun w _ => ?_)
    unfold msB
    refine ite3 ?_ (hm _) ?_
    · unfold lvB
      rw [if_neg (by omega), decide_eq_true_iff, he]
    · by_cases z : S 8 w / 2 = t
      · rw [if_pos z, if_pos z]
      · rw [if_neg z, if_neg z]
        exact cw_cx g (dp + 1) (up1 f dp (w + 1)) (up1 met (S 8 w / 2) 1) (fl (S 8 w)) (Nat.succ_pos _) (by rw [Nat.add_sub_cancel, up1_same, Nat.add_sub_cancel]) (met_next hm)
theorem sm_ad (f g : Nat → Nat) : ∀ n, sm (fun i => f i + g i) 0 n = sm f 0 n + sm g 0 n
  | 0 => rfl
  | n + 1 => by
    rw [sm_s, sm_s, sm_s, sm_ad f g n]
    omega
theorem sm_zr : ∀ n, sm (fun _ => 0) 0 n = 0
  | 0 => rfl
  | n + 1 => by rw [sm_s, sm_zr n]
theorem cw_cpl {S : Nat → Nat → Nat} {o : Nat → Bool} {a t g : Nat} {f : Nat → Nat} : cw S o a t g 0 f 0 = cpl S o a t g := by
  have hsn : ∀ p, snB S a 0 f p = false ↔ met1 a p = 0 := fun p => by
    rw [snB_0]
    unfold met1
    by_cases z : p = a
    · rw [if_pos z, decide_eq_true z]
      exact ⟨fun q => absurd q (by decide), fun q => absurd q (by decide)⟩
    · rw [if_neg z, decide_eq_false z]
      exact ⟨fun _ => rfl, fun _ => rfl⟩
  have two : cpl S o a t g = sm (fun w => if S 7 w = 2 * a ∧ mvL S (2 * a) = true then tm S o t g (met1 a) w else 0) 0 (S 0 1) + sm (fun w => if S 7 w = 2 * a + 1 ∧ mvL S (2 * a + 1) = true then tm S o t g (met1 a) w else 0) 0 (S 0 1) := by
    unfold cpl
    show 0 + (if mvL S (2 * a + 0) = true then cx S o t g (met1 a) (2 * a + 0) else 0) + (if mvL S (2 * a + 1) = true then cx S o t g (met1 a) (2 * a + 1) else 0) = _
    rw [Nat.zero_add, Nat.add_zero, cx_tm, cx_tm]
    have each : ∀ e, (if mvL S e = true then sm (fun p => if S 7 p = e then tm S o t g (met1 a) p else 0) 0 (S 0 1) else 0) = sm (fun w => if S 7 w = e ∧ mvL S e = true then tm S o t g (met1 a) w else 0) 0 (S 0 1) := fun e => by
      by_cases z : mvL S e = true
      · rw [if_pos z]
        refine sm_cong _ (fun i _ => ?_)
        by_cases y : S 7 i = e
        · rw [if_pos y, if_pos ⟨y, z⟩]
        · rw [if_neg y, if_neg (fun q => y q.1)]
      · rw [if_neg z]
        refine (sm_zr (S 0 1)).symm.trans (sm_cong _ (fun i _ => ?_))
        exact (if_neg (fun q => z q.2)).symm
    rw [each, each]
  rw [two, ← sm_ad]
  have lv : ∀ w, lvB S a 0 f (S 7 w) = true ↔ ((S 7 w = 2 * a ∧ mvL S (2 * a) = true) ∨ (S 7 w = 2 * a + 1 ∧ mvL S (2 * a + 1) = true)) := fun w => by
    unfold lvB mvL
    rw [if_pos rfl, show 2 * a / 2 = a by omega, show (2 * a + 1) / 2 = a by omega]
    simp only [Bool.and_eq_true, Bool.or_eq_true, decide_eq_true_eq]
    omega
  have pt : ∀ w X, X = (if S 8 w / 2 = t then 1 else (if g = 0 then 0 else cx S o t (g - 1) (up1 (met1 a) (S 8 w / 2) 1) (fl (S 8 w)))) → (if msB S o a 0 f w = true then X else 0) = (if S 7 w = 2 * a ∧ mvL S (2 * a) = true then tm S o t g (met1 a) w else 0) + (if S 7 w = 2 * a + 1 ∧ mvL S (2 * a + 1) = true then tm S o t g (met1 a) w else 0) := fun w X hX => by
    unfold msB
    rw [ite3 (lv w) (hsn _) hX]
    by_cases z1 : S 7 w = 2 * a ∧ mvL S (2 * a) = true
    · have z2 : ¬ (S 7 w = 2 * a + 1 ∧ mvL S (2 * a + 1) = true) := fun q => by have := q.1; have := z1.1; omega
      rw [if_pos (Or.inl z1), if_pos z1, if_neg z2, Nat.add_zero]
      rfl
    · by_cases z2 : S 7 w = 2 * a + 1 ∧ mvL S (2 * a + 1) = true
      · rw [if_pos (Or.inr z2), if_neg z1, if_pos z2, Nat.zero_add]
        rfl
      · rw [if_neg (fun q => q.elim z1 z2), if_neg z1, if_neg z2]
  cases g with
  | zero =>
    unfold cw
    rw [Nat.sub_zero]
    exact sm_cong _ (fun w _ => pt w _ rfl)
  | succ g =>
    unfold cw
    rw [Nat.sub_zero]
    refine sm_cong _ (fun w _ => pt w _ ?_)
    by_cases z : S 8 w / 2 = t
    · rw [if_pos z, if_pos z]
    · rw [if_neg z, if_neg z, if_neg (Nat.succ_ne_zero _)]
      exact cw_cx g 1 (up1 f 0 (w + 1)) (up1 (met1 a) (S 8 w / 2) 1) (fl (S 8 w)) Nat.one_pos (by rw [show (1 : Nat) - 1 = 0 from rfl, up1_same, Nat.add_sub_cancel]) (met_next hsn)
theorem cpl_o {S : Nat → Nat → Nat} {o o' : Nat → Bool} {a t b N : Nat} (h8 : ∀ p, p < S 0 1 → S 8 p / 2 < N) (ho : ∀ p, p < S 0 1 → o p = o' p) : cpl S o a t b = cpl S o' a t b := by
  unfold cpl
  refine congrArg (fun F => sm F (2 * a) 2) (funext fun e => ?_)
  rw [cx_cg h8 ho b (met1 a) (met1 a) e (fun _ _ => rfl)]
theorem oZ_far {Z : Nat → Nat → Nat} {k : Nat} {A : Nat → Nat} : oZ (upR Z (50 + k) A) = oZ Z := by
  unfold oZ
  rw [upR_ne _ _ (show 0 ≠ 50 + k by omega)]
theorem met1_le (a p : Nat) : met1 a p ≤ 1 := by
  unfold met1
  split <;> omega
