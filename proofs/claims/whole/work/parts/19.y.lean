/-! Seconds by the rest of the rounds; congruences; nearest. -/
theorem sAt_cg {S : Nat → Nat → Nat} {o o' : Nat → Bool} {r r' : Nat → Nat} {p : Nat} (ho : o p = o' p) (hr : r (S 7 p) = r' (S 7 p)) : sAt S o r p = sAt S o' r' p := by
  unfold sAt
  rw [ho, hr]
theorem sBh_cg {S : Nat → Nat → Nat} {o o' : Nat → Bool} {r r' : Nat → Nat} {p : Nat} (ho : o p = o' p) (hr : r (S 7 p) = r' (S 7 p)) : sBh S o r p = sBh S o' r' p := by
  unfold sBh
  rw [sAt_cg ho hr]
theorem rlx_cg {S : Nat → Nat → Nat} {o o' : Nat → Bool} {N : Nat} {r r' : Nat → Nat} {p : Nat} (hG : Gr S N) (hp : p < S 0 1) (ho : o p = o' p) (hr : ∀ e, e < N → r e = r' e) : ∀ e, e < N → rlx S o r p e = rlx S o' r' p e := by
  intro e he
  obtain ⟨g1, g2, -⟩ := hG.2 p hp
  unfold rlx
  rw [sBh_cg ho (hr _ g1), hr _ g2]
  split
  · unfold up1
    rw [hr e he]
  · exact hr e he
theorem rnd_cg {S : Nat → Nat → Nat} {o o' : Nat → Bool} {N : Nat} {r r' : Nat → Nat} (hG : Gr S N) (ho : ∀ p, p < S 0 1 → o p = o' p) (hr : ∀ e, e < N → r e = r' e) : ∀ k, k ≤ S 0 1 → ∀ e, e < N → rnd S o r k e = rnd S o' r' k e
  | 0, _ => hr
  | k + 1, hk => rlx_cg hG (by omega) (ho k (by omega)) (rnd_cg hG ho hr k (by omega))
theorem itr_cg {S : Nat → Nat → Nat} {o o' : Nat → Bool} {N : Nat} {r r' : Nat → Nat} (hG : Gr S N) (ho : ∀ p, p < S 0 1 → o p = o' p) (hr : ∀ e, e < N → r e = r' e) : ∀ n, ∀ e, e < N → itr S o r n e = itr S o' r' n e
  | 0 => hr
  | n + 1 => rnd_cg hG ho (itr_cg hG ho hr n) _ (Nat.le_refl _)
theorem lpB_cg {S : Nat → Nat → Nat} {o o' : Nat → Bool} {N : Nat} {r r' : Nat → Nat} {t : Nat} (hG : Gr S N) (ho : ∀ p, p < S 0 1 → o p = o' p) (hr : ∀ e, e < N → r e = r' e) : ∀ n, n ≤ S 0 1 → lpB S o r t n = lpB S o' r' t n
  | 0, _ => rfl
  | n + 1, hn => by
    have ih := lpB_cg (t := t) hG ho hr n (by omega)
    have h1 := sAt_cg (S := S) (ho n (by omega)) (hr _ (hG.2 n (by omega)).1)
    unfold lpB
    rw [ih, h1]
theorem sTo_cg {S : Nat → Nat → Nat} {o o' : Nat → Bool} {N : Nat} {r r' : Nat → Nat} {a t : Nat} (hG : Gr S N) (ho : ∀ p, p < S 0 1 → o p = o' p) (hr : ∀ e, e < N → r e = r' e) : sTo S o r a t = sTo S o' r' a t := by
  unfold sTo
  rw [lpB_cg hG ho hr _ (Nat.le_refl _)]
/-- the least seconds at which each end is reached -/
def fin (S : Nat → Nat → Nat) (o : Nat → Bool) (a : Nat) : Nat → Nat := itr S o (rs S a (fun _ => 1000000)) 40
/-- the seconds of a robot of width w from a to t in hour h; 1000000: no way -/
def secs (S : Nat → Nat → Nat) (w h a t : Nat) : Nat := sTo S (opn S w h) (fin S (opn S w h) a) a t
theorem rs_cg {S : Nat → Nat → Nat} {a : Nat} {old old' : Nat → Nat} : ∀ e, e < 2 * S 0 0 → rs S a old e = rs S a old' e := by
  intro e he
  unfold rs
  rw [if_pos he, if_pos he]
theorem secs_m {S : Nat → Nat → Nat} {w h a t : Nat} {old : Nat → Nat} (hG : Gr S (2 * S 0 0)) : sTo S (opn S w h) (itr S (opn S w h) (rs S a old) 40) a t = secs S w h a t := sTo_cg hG (fun _ _ => rfl) (itr_cg hG (fun _ _ => rfl) rs_cg 40)
theorem secs_le {S : Nat → Nat → Nat} {w h a t : Nat} : secs S w h a t ≤ 1000000 := sTo_le
theorem Rb_fin {S : Nat → Nat → Nat} {o : Nat → Bool} {a : Nat} {old : Nat → Nat} (hG : Gr S (2 * S 0 0)) (h : Rb old) : Rb (itr S o (rs S a old) 40) := (Okr.itr hG (rs_Okr h) 40).2
def okD (S : Nat → Nat → Nat) (x0 x1 x2 x3 : Int32) : Prop := (0 ≤ x0.toInt ∧ x0.toInt < (S 0 2 : Int)) ∧ isPc S x1 ∧ isPc S x2 ∧ 0 ≤ x3.toInt ∧ x3.toInt ≤ 23
theorem isD_iff {S : Nat → Nat → Nat} {x0 x1 x2 x3 : Int32} : isD S x0 x1 x2 x3 = true ↔ okD S x0 x1 x2 x3 := by
  unfold isD okD isPc
  simp only [Bool.and_eq_true, inR_iff]
  omega
theorem okD_t {S : Nat → Nat → Nat} {x0 x1 x2 x3 : Int32} (h : 0 < bN (isD S x0 x1 x2 x3)) : okD S x0 x1 x2 x3 := isD_iff.mp (bN_pos h)
theorem okD_f {S : Nat → Nat → Nat} {x0 x1 x2 x3 : Int32} (h : bN (isD S x0 x1 x2 x3) = 0) : ¬ okD S x0 x1 x2 x3 := fun q => bN_no h (isD_iff.mpr q)
/-- the piece with a charger that is come to first among the first n: one more, and when -/
def nrB (S : Nat → Nat → Nat) (w h a : Nat) : Nat → Nat × Nat
  | 0 => (0, 1000000)
  | n + 1 => if hasCh S n = true ∧ secs S w h a n < (nrB S w h a n).2 then (n + 1, secs S w h a n) else nrB S w h a n
theorem nrB_y {S : Nat → Nat → Nat} {w h a n b x : Nat} (e : nrB S w h a n = (b, x)) (h1 : hasCh S n = true) (h2 : secs S w h a n < x) : nrB S w h a (n + 1) = (n + 1, secs S w h a n) := by
  unfold nrB
  rw [e]
  exact if_pos ⟨h1, h2⟩
theorem nrB_n {S : Nat → Nat → Nat} {w h a n b x : Nat} (e : nrB S w h a n = (b, x)) (h1 : ¬ (hasCh S n = true ∧ secs S w h a n < x)) : nrB S w h a (n + 1) = (b, x) := by
  unfold nrB
  rw [e]
  exact if_neg h1
theorem nrB_ok {S : Nat → Nat → Nat} {w h a : Nat} : ∀ n, (nrB S w h a n).1 ≤ n ∧ (nrB S w h a n).2 ≤ 1000000 ∧ ((nrB S w h a n).1 = 0 ↔ (nrB S w h a n).2 = 1000000)
  | 0 => ⟨Nat.le_refl _, Nat.le_refl _, ⟨fun _ => rfl, fun _ => rfl⟩⟩
  | n + 1 => by
    have ih := nrB_ok (S := S) (w := w) (h := h) (a := a) n
    by_cases q : hasCh S n = true ∧ secs S w h a n < (nrB S w h a n).2
    · rw [nrB_y rfl q.1 q.2]
      have h1 := q.2
      have h2 := ih.2.1
      refine ⟨Nat.le_refl _, ?_, ⟨fun z => ?_, fun z => ?_⟩⟩
      · simp only; omega
      · simp at z
      · simp only at z; omega
    · rw [nrB_n rfl q]
      exact ⟨by have := ih.1; omega, ih.2⟩
theorem zI_toInt {v : Nat} (h : v < 2 ^ 31) : (zI v).toInt = if v = 0 then -1 else (v : Int) := by
  unfold zI
  split
  · rfl
  · exact nI_toInt h
noncomputable def cdTb (S : Nat → Nat → Nat) (x0 x1 : Int32) : Nat := by
  classical
  exact if S 0 2 = 0 then 1 else if (0 ≤ x0.toInt ∧ x0.toInt < (S 0 3 : Int)) ∧ 0 ≤ x1.toInt ∧ x1.toInt < (S 0 3 : Int) then 0 else 2
theorem cdTb_1 {S : Nat → Nat → Nat} {x0 x1 : Int32} (h : S 0 2 = 0) : cdTb S x0 x1 = 1 := by unfold cdTb; exact if_pos h
theorem cdTb_2 {S : Nat → Nat → Nat} {x0 x1 : Int32} (h : 0 < S 0 2) (h2 : ¬ ((0 ≤ x0.toInt ∧ x0.toInt < (S 0 3 : Int)) ∧ 0 ≤ x1.toInt ∧ x1.toInt < (S 0 3 : Int))) : cdTb S x0 x1 = 2 := by unfold cdTb; rw [if_neg (by omega), if_neg h2]
theorem cdTb_0 {S : Nat → Nat → Nat} {x0 x1 : Int32} (h : 0 < S 0 2) (h2 : (0 ≤ x0.toInt ∧ x0.toInt < (S 0 3 : Int)) ∧ 0 ≤ x1.toInt ∧ x1.toInt < (S 0 3 : Int)) : cdTb S x0 x1 = 0 := by unfold cdTb; rw [if_neg (by omega), if_pos h2]
def tbS (S : Nat → Nat → Nat) (i : Nat) : Nat → Nat → Nat := if S 13 i = S 0 4 then S else up2 (up2 S 13 i (S 0 4)) 0 5 (S 0 5 + 1)
theorem cdC_1 {S : Nat → Nat → Nat} {x0 : Int32} (h : ¬ isPc S x0) : cdC S x0 = 1 := by unfold cdC; exact if_neg h
theorem cdC_2 {S : Nat → Nat → Nat} {x0 : Int32} (h : isPc S x0) (h2 : hasCh S (iN x0) = true) : cdC S x0 = 2 := by unfold cdC; rw [if_pos h, if_pos h2]
theorem cdC_3 {S : Nat → Nat → Nat} {x0 : Int32} (h : isPc S x0) (h2 : hasCh S (iN x0) = false) (h3 : S 0 3 = 8) : cdC S x0 = 3 := by unfold cdC; rw [if_pos h, h2, if_neg (by decide), if_pos h3]
theorem cdC_0 {S : Nat → Nat → Nat} {x0 : Int32} (h : isPc S x0) (h2 : hasCh S (iN x0) = false) (h3 : S 0 3 ≠ 8) : cdC S x0 = 0 := by unfold cdC; rw [if_pos h, h2, if_neg (by decide), if_neg h3]
theorem sm_pair {S : Nat → Nat → Nat} {n : Nat} : sm (S 10) 0 (2 * n + 2) = sm (S 10) 0 (2 * n) + (S 10 (2 * n) + S 10 (2 * n + 1)) := by
  show sm (S 10) 0 (2 * n) + S 10 (0 + 2 * n) + S 10 (0 + (2 * n + 1)) = _
  rw [Nat.zero_add, Nat.zero_add]
  omega
theorem up2_up2 (S : Nat → Nat → Nat) (f i v w : Nat) : up2 (up2 S f i v) f i w = up2 S f i w := by
  rw [up2, up2, upR_upR, upR_same]
  refine congrArg (upR S f) (funext fun j => ?_)
  unfold up1
  split <;> rfl
theorem cdC_cv {S : Nat → Nat → Nat} {x0 : Int32} {cv : Nat} (hv : cv = 0 ∨ cv = 1 ∨ cv = 2) (hn : cv ≠ 0) (hp : cv ≠ 1 → 0 ≤ x0.toInt ∧ x0.toInt < (S 0 0 : Int)) (hq : cv = 1 → ¬ (0 ≤ x0.toInt ∧ x0.toInt < (S 0 0 : Int))) (h2 : cv = 2 → hasCh S (iN x0) = true) : cdC S x0 = cv := by
  rcases hv with z | z | z
  · exact absurd z hn
  · rw [z]; exact cdC_1 (hq z)
  · rw [z]; exact cdC_2 (hp (by omega)) (h2 z)
theorem any_o {f : Nat → Bool} {i v : Nat} (h : v = bN (anyB f i)) (h2 : 0 < v) : 1 = bN (anyB f (i + 1)) := by
  rw [h] at h2
  unfold anyB
  rw [bN_pos h2]
  rfl
theorem any_y {f : Nat → Bool} {i v : Nat} (h : v = bN (anyB f i)) (h2 : v = 0) (h3 : f i = true) : 1 = bN (anyB f (i + 1)) := by
  unfold anyB
  rw [h3, Bool.or_true]
  rfl
theorem any_n {f : Nat → Bool} {i v : Nat} (h : v = bN (anyB f i)) (h2 : v = 0) (h3 : f i = false) : 0 = bN (anyB f (i + 1)) := by
  rw [h] at h2
  unfold anyB
  rw [h3, bN_zero h2]
  rfl
theorem cnt_0 {S : Nat → Nat → Nat} {x : Int32} (h : x.toInt = 0) : nI (S 0 0) = pI (cntR S x) := by rw [cntR, if_pos h]; exact pI_s _
theorem cnt_1 {S : Nat → Nat → Nat} {x : Int32} (h : x.toInt ≠ 0) (h1 : x.toInt = (nI 1).toInt) : nI (S 0 1 / 2) = pI (cntR S x) := by have h1 : x.toInt = 1 := h1; rw [cntR, if_neg h, if_pos h1]; exact pI_s _
theorem cnt_2 {S : Nat → Nat → Nat} {x : Int32} (h : x.toInt ≠ 0) (h1 : x.toInt ≠ (nI 1).toInt) (h2 : x.toInt = (nI 2).toInt) : nI (S 0 2) = pI (cntR S x) := by have h1 : x.toInt ≠ 1 := h1; have h2 : x.toInt = 2 := h2; rw [cntR, if_neg h, if_neg h1, if_pos h2]; exact pI_s _
theorem cnt_3 {S : Nat → Nat → Nat} {x : Int32} (h : x.toInt ≠ 0) (h1 : x.toInt ≠ (nI 1).toInt) (h2 : x.toInt ≠ (nI 2).toInt) (h3 : x.toInt = (nI 3).toInt) : nI (S 0 3) = pI (cntR S x) := by have h1 : x.toInt ≠ 1 := h1; have h2 : x.toInt ≠ 2 := h2; have h3 : x.toInt = 3 := h3; rw [cntR, if_neg h, if_neg h1, if_neg h2, if_pos h3]; exact pI_s _
theorem cnt_4 {S : Nat → Nat → Nat} {x : Int32} (h4 : x.toInt = (nI 4).toInt) : nI (sm (S 10) 0 (S 0 1)) = pI (cntR S x) := by
  have h : x.toInt = 4 := h4
  rw [cntR, if_neg (by omega), if_neg (by omega), if_neg (by omega), if_neg (by omega), if_pos h]; exact pI_s _
theorem cnt_e {S : Nat → Nat → Nat} {x : Int32} (_ : 0 < 1) (h : x.toInt ≠ 0) (h1 : x.toInt ≠ (nI 1).toInt) (h2 : x.toInt ≠ (nI 2).toInt) (h3 : x.toInt ≠ (nI 3).toInt) (h4 : x.toInt ≠ (nI 4).toInt) : pI 0 = pI (cntR S x) := by have h1 : x.toInt ≠ 1 := h1; have h2 : x.toInt ≠ 2 := h2; have h3 : x.toInt ≠ 3 := h3; have h4 : x.toInt ≠ 4 := h4; rw [cntR, if_neg h, if_neg h1, if_neg h2, if_neg h3, if_neg h4]
