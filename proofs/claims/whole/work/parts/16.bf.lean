/-! The rounds come to rest: forty ends, each round that changes something brings one more end to its last value. Pure. -/
theorem sm_mono {f g : Nat → Nat} : ∀ n, (∀ i, i < n → f i ≤ g i) → sm f 0 n ≤ sm g 0 n
  | 0, _ => Nat.le_refl _
  | n + 1, h => by
    have h1 := sm_mono n (fun i hi => h i (by omega))
    have h2 := h n (by omega)
    unfold sm
    rw [Nat.zero_add]
    omega
theorem sm_strict {f g : Nat → Nat} {k : Nat} : ∀ n, (∀ i, i < n → f i ≤ g i) → k < n → f k < g k → sm f 0 n < sm g 0 n
  | 0, _, hk, _ => absurd hk (Nat.not_lt_zero _)
  | n + 1, h, hk, hs => by
    have h1 := sm_mono n (fun i hi => h i (by omega))
    have h2 := h n (by omega)
    unfold sm
    rw [Nat.zero_add]
    rcases Nat.lt_or_eq_of_le (Nat.le_of_lt_succ hk) with q | q
    · have h3 := sm_strict n (fun i hi => h i (by omega)) q hs
      omega
    · subst q
      omega
theorem sm_up {f g : Nat → Nat} {k : Nat} (h : ∀ i, i ≠ k → g i = f i) : ∀ n, k < n → sm g 0 n + f k = sm f 0 n + g k
  | 0, hk => absurd hk (Nat.not_lt_zero _)
  | n + 1, hk => by
    unfold sm
    rw [Nat.zero_add]
    rcases Nat.lt_or_eq_of_le (Nat.le_of_lt_succ hk) with q | q
    · have h3 := sm_up h n q
      have h4 := h n (by omega)
      omega
    · subst q
      have h5 : ∀ n, n ≤ k → sm g 0 n = sm f 0 n := by
        intro n
        induction n with
        | zero => intro _; rfl
        | succ n ih =>
          intro hn
          unfold sm
          rw [Nat.zero_add, ih (by omega), h n (by omega)]
      have := h5 k (Nat.le_refl _)
      omega
theorem sm_le1 {f : Nat → Nat} (h : ∀ i, f i ≤ 1) : ∀ n, sm f 0 n ≤ n := fun n => sm_le h n
/-- all are 1 where the sum is full -/
theorem sm_full {f : Nat → Nat} (h : ∀ i, f i ≤ 1) : ∀ n, n ≤ sm f 0 n → ∀ i, i < n → f i = 1
  | 0, _, i, hi => absurd hi (Nat.not_lt_zero _)
  | n + 1, hn, i, hi => by
    unfold sm at hn
    rw [Nat.zero_add] at hn
    have h1 := sm_le (a := 0) h n
    have h2 := h n
    rcases Nat.lt_or_eq_of_le (Nat.le_of_lt_succ hi) with q | q
    · exact sm_full h n (by omega) i q
    · subst q
      omega
theorem anyB_f {f : Nat → Bool} : ∀ n, anyB f n = false → ∀ i, i < n → f i = false
  | 0, _, i, hi => absurd hi (Nat.not_lt_zero _)
  | n + 1, h, i, hi => by
    unfold anyB at h
    have h1 : anyB f n = false ∧ f n = false := by
      cases h2 : anyB f n <;> cases h3 : f n <;> simp [h2, h3] at h ⊢
    rcases Nat.lt_or_eq_of_le (Nat.le_of_lt_succ hi) with q | q
    · exact anyB_f n h1.1 i q
    · rw [q]; exact h1.2
theorem anyB_e {f : Nat → Bool} : ∀ n, anyB f n = true → ∃ i, i < n ∧ f i = true
  | 0, h => by cases h
  | n + 1, h => by
    unfold anyB at h
    cases h2 : anyB f n with
    | true =>
      obtain ⟨i, hi, h3⟩ := anyB_e n h2
      exact ⟨i, by omega, h3⟩
    | false =>
      rw [h2] at h
      exact ⟨n, by omega, by simpa using h⟩
def wt (S : Nat → Nat → Nat) (p : Nat) : Nat := S 9 p + S 2 (S 8 p / 2)
/-- passages among N ends -/
def Gr (S : Nat → Nat → Nat) (N : Nat) : Prop := N ≤ 40 ∧ ∀ p, p < S 0 1 → S 7 p < N ∧ fl (S 8 p) < N ∧ S 7 p ≠ fl (S 8 p) ∧ 1 ≤ wt S p ∧ wt S p ≤ 1100 ∧ S 9 p ≤ 100
/-- how many ends have been reached -/
def cf (r : Nat → Nat) (n : Nat) : Nat := sm (fun e => if r e = 1000000 then 0 else 1) 0 n
theorem cf_le (r : Nat → Nat) (n : Nat) : cf r n ≤ n := sm_le (fun i => by split <;> omega) n
def Gd (S : Nat → Nat → Nat) (o : Nat → Bool) (N : Nat) (src : Nat → Bool) (r : Nat → Nat) : Prop :=
  (∀ e, e < N → r e = 1000000 ∨ r e ≤ 1100 * cf r N) ∧
  ∀ e, e < N → r e = 1000000 ∨ (r e = 0 ∧ src e = true) ∨ ∃ p, p < S 0 1 ∧ o p = true ∧ fl (S 8 p) = e ∧ r (S 7 p) ≠ 1000000 ∧ r (S 7 p) + wt S p ≤ r e
theorem Gd.sm {S : Nat → Nat → Nat} {o : Nat → Bool} {N : Nat} {src : Nat → Bool} {r : Nat → Nat} (h : Gd S o N src r) (hN : N ≤ 40) {e : Nat} (he : e < N) : r e = 1000000 ∨ r e ≤ 44000 := by
  have h1 := h.1 e he
  have h2 := cf_le r N
  rcases h1 with h1 | h1
  · exact Or.inl h1
  · right
    have : 1100 * cf r N ≤ 1100 * 40 := Nat.mul_le_mul_left _ (by omega)
    omega
theorem sBh_g {S : Nat → Nat → Nat} {o : Nat → Bool} {r : Nat → Nat} {p : Nat} (h9 : S 9 p ≤ 100) (h : r (S 7 p) = 1000000 ∨ r (S 7 p) ≤ 44000) : sBh S o r p = if o p = true ∧ r (S 7 p) ≠ 1000000 then r (S 7 p) + wt S p else 1000000 := by
  by_cases q : o p = true ∧ r (S 7 p) ≠ 1000000
  · have h1 := sAt_some q.1 q.2
    have h2 : r (S 7 p) ≤ 44000 := by
      have := q.2
      omega
    rw [if_pos q, sBh_some (by omega), h1, wt]
    omega
  · rw [if_neg q, sBh_none (sAt_none q)]
theorem rlx_le (S : Nat → Nat → Nat) (o : Nat → Bool) (r : Nat → Nat) (p e : Nat) : rlx S o r p e ≤ r e := by
  unfold rlx
  split
  · unfold up1
    split
    · rename_i h1 h2
      rw [h2]
      omega
    · exact Nat.le_refl _
  · exact Nat.le_refl _
theorem rlx_at (S : Nat → Nat → Nat) (o : Nat → Bool) (r : Nat → Nat) (p : Nat) : rlx S o r p (fl (S 8 p)) ≤ sBh S o r p := by
  unfold rlx
  split
  · rw [up1_same]
    exact Nat.le_refl _
  · omega
theorem rlx_Gd {S : Nat → Nat → Nat} {o : Nat → Bool} {N : Nat} {src : Nat → Bool} {r : Nat → Nat} {p : Nat} (hG : Gr S N) (hp : p < S 0 1) (h : Gd S o N src r) : Gd S o N src (rlx S o r p) := by
  obtain ⟨g1, g2, g3, g4, g5, g6⟩ := hG.2 p hp
  have hs := h.sm hG.1 g1
  have hb := sBh_g (o := o) g6 hs
  by_cases q : sBh S o r p < r (fl (S 8 p))
  · have he := h.sm hG.1 g2
    have hop : o p = true ∧ r (S 7 p) ≠ 1000000 := by
      refine Classical.byContradiction fun z => ?_
      rw [hb, if_neg z] at q
      omega
    rw [if_pos hop] at hb
    have hr : rlx S o r p = up1 r (fl (S 8 p)) (r (S 7 p) + wt S p) := by
      rw [rlx, if_pos q, hb]
    rw [hr]
    generalize hx : fl (S 8 p) = x at *
    have hsm : r (S 7 p) ≤ 44000 := by
      have := hop.2
      omega
    have hv : r (S 7 p) + wt S p ≠ 1000000 := by omega
    have hc : cf (up1 r x (r (S 7 p) + wt S p)) N = cf r N + (if r x = 1000000 then 1 else 0) := by
      have h1 := sm_up (f := fun e => if r e = 1000000 then 0 else 1) (g := fun e => if up1 r x (r (S 7 p) + wt S p) e = 1000000 then 0 else 1) (k := x) (fun i hi => by rw [up1_ne _ _ hi]) N g2
      simp only [up1_same, if_neg hv] at h1
      unfold cf
      split
      · rename_i h2
        rw [if_pos h2] at h1
        omega
      · rename_i h2
        rw [if_neg h2] at h1
        omega
    refine ⟨fun e hel => ?_, fun e hel => ?_⟩
    · rw [hc]
      by_cases z : e = x
      · subst z
        rw [up1_same]
        right
        by_cases y : r e = 1000000
        · rw [if_pos y]
          have := (h.1 _ g1).resolve_left hop.2
          omega
        · rw [if_neg y]
          have := (h.1 _ hel).resolve_left y
          omega
      · rw [up1_ne _ _ z]
        rcases h.1 e hel with y | y
        · exact Or.inl y
        · right
          have : cf r N ≤ cf r N + (if r x = 1000000 then 1 else 0) := Nat.le_add_right _ _
          have := Nat.mul_le_mul_left 1100 this
          omega
    · by_cases z : e = x
      · subst z
        right; right
        refine ⟨p, hp, hop.1, hx, ?_, ?_⟩
        · rw [up1_ne _ _ g3]
          exact hop.2
        · rw [up1_ne _ _ g3, up1_same]
          exact Nat.le_refl _
      · rw [up1_ne _ _ z]
        rcases h.2 e hel with y | y | ⟨p', y1, y2, y3, y4, y5⟩
        · exact Or.inl y
        · exact Or.inr (Or.inl y)
        · right; right
          refine ⟨p', y1, y2, y3, ?_, ?_⟩
          · by_cases w : S 7 p' = x
            · rw [w, up1_same]
              exact hv
            · rw [up1_ne _ _ w]
              exact y4
          · by_cases w : S 7 p' = x
            · rw [w] at y5 ⊢
              rw [up1_same]
              rw [hb] at q
              omega
            · rw [up1_ne _ _ w]
              exact y5
  · rw [rlx, if_neg q]
    exact h
theorem rnd_Gd {S : Nat → Nat → Nat} {o : Nat → Bool} {N : Nat} {src : Nat → Bool} {r : Nat → Nat} (hG : Gr S N) (h : Gd S o N src r) : ∀ k, k ≤ S 0 1 → Gd S o N src (rnd S o r k)
  | 0, _ => h
  | k + 1, hk => rlx_Gd hG (by omega) (rnd_Gd hG h k (by omega))
theorem rnd_le (S : Nat → Nat → Nat) (o : Nat → Bool) (r : Nat → Nat) (e k : Nat) : ∀ j, rnd S o r (k + j) e ≤ rnd S o r k e
  | 0 => Nat.le_refl _
  | j + 1 => Nat.le_trans (rlx_le _ _ _ _ _) (rnd_le S o r e k j)
theorem rnd_mono (S : Nat → Nat → Nat) (o : Nat → Bool) (r : Nat → Nat) (e : Nat) {k n : Nat} (h : k ≤ n) : rnd S o r n e ≤ rnd S o r k e := by
  obtain ⟨j, rfl⟩ := Nat.exists_eq_add_of_le h
  exact rnd_le S o r e k j
def itr (S : Nat → Nat → Nat) (o : Nat → Bool) (r : Nat → Nat) : Nat → Nat → Nat
  | 0 => r
  | n + 1 => rnd S o (itr S o r n) (S 0 1)
/-- whether one of the first k passages changes something in this round -/
def chg (S : Nat → Nat → Nat) (o : Nat → Bool) (r : Nat → Nat) (k : Nat) : Bool := anyB (fun p => decide (sBh S o (rnd S o r p) p < rnd S o r p (fl (S 8 p)))) k
theorem chg_f {S : Nat → Nat → Nat} {o : Nat → Bool} {r : Nat → Nat} : ∀ k, chg S o r k = false → rnd S o r k = r
  | 0, _ => rfl
  | k + 1, h => by
    have h1 : chg S o r k = false ∧ ¬ sBh S o (rnd S o r k) k < rnd S o r k (fl (S 8 k)) := by
      refine ⟨?_, ?_⟩
      · cases h2 : chg S o r k with
        | false => rfl
        | true =>
          obtain ⟨i, hi, h3⟩ := anyB_e k h2
          have := anyB_f (k + 1) h i (by omega)
          rw [this] at h3
          cases h3
      · have := anyB_f (k + 1) h k (by omega)
        simpa using this
    show rlx S o (rnd S o r k) k = r
    rw [rlx, if_neg h1.2]
    exact chg_f k h1.1
theorem chg_t {S : Nat → Nat → Nat} {o : Nat → Bool} {N : Nat} {r : Nat → Nat} (hG : Gr S N) (h : chg S o r (S 0 1) = true) : ∃ e, e < N ∧ rnd S o r (S 0 1) e < r e := by
  obtain ⟨p, hp, h1⟩ := anyB_e _ h
  have h2 : sBh S o (rnd S o r p) p < rnd S o r p (fl (S 8 p)) := by simpa using h1
  refine ⟨fl (S 8 p), (hG.2 p hp).2.1, ?_⟩
  have h3 := rnd_mono S o r (fl (S 8 p)) (show p + 1 ≤ S 0 1 by omega)
  have h4 : rnd S o r (p + 1) (fl (S 8 p)) ≤ sBh S o (rnd S o r p) p := rlx_at S o (rnd S o r p) p
  have h5 : rnd S o r p (fl (S 8 p)) ≤ r (fl (S 8 p)) := rnd_mono S o r _ (Nat.zero_le p)
  omega
theorem itr_s (S : Nat → Nat → Nat) (o : Nat → Bool) (r : Nat → Nat) : ∀ n, itr S o (rnd S o r (S 0 1)) n = itr S o r (n + 1)
  | 0 => rfl
  | n + 1 => by
    show rnd S o (itr S o (rnd S o r (S 0 1)) n) (S 0 1) = rnd S o (itr S o r (n + 1)) (S 0 1)
    rw [itr_s S o r n]
theorem itr_step (S : Nat → Nat → Nat) (o : Nat → Bool) (r : Nat → Nat) (n e : Nat) : itr S o r (n + 1) e ≤ itr S o r n e := rnd_mono S o (itr S o r n) e (Nat.zero_le _)
theorem itr_mono (S : Nat → Nat → Nat) (o : Nat → Bool) (r : Nat → Nat) (e n : Nat) : ∀ j, itr S o r (n + j) e ≤ itr S o r n e
  | 0 => Nat.le_refl _
  | j + 1 => Nat.le_trans (itr_step S o r (n + j) e) (itr_mono S o r e n j)
theorem itr_rest {S : Nat → Nat → Nat} {o : Nat → Bool} {r : Nat → Nat} {n : Nat} (h : chg S o (itr S o r n) (S 0 1) = false) : ∀ j, itr S o r (n + j) = itr S o r n
  | 0 => rfl
  | j + 1 => by
    show rnd S o (itr S o r (n + j)) (S 0 1) = _
    rw [itr_rest h j]
    exact chg_f _ h
theorem itr_Gd {S : Nat → Nat → Nat} {o : Nat → Bool} {N : Nat} {src : Nat → Bool} {r : Nat → Nat} (hG : Gr S N) (h : Gd S o N src r) : ∀ n, Gd S o N src (itr S o r n)
  | 0 => h
  | n + 1 => rnd_Gd hG (itr_Gd hG h n) _ (Nat.le_refl _)
theorem itr_end {S : Nat → Nat → Nat} {o : Nat → Bool} {N : Nat} (hG : Gr S N) : ∀ (n : Nat) (r : Nat → Nat), sm r 0 N ≤ n → ∃ M, chg S o (itr S o r M) (S 0 1) = false := by
  intro n
  induction n with
  | zero =>
    intro r hr
    refine ⟨0, ?_⟩
    cases h : chg S o (itr S o r 0) (S 0 1) with
    | false => rfl
    | true =>
      obtain ⟨e, he, h1⟩ := chg_t hG h
      have h2 := sm_strict (f := rnd S o r (S 0 1)) (g := r) N (fun i _ => rnd_mono S o r i (Nat.zero_le _)) he h1
      omega
  | succ n ih =>
    intro r hr
    cases h : chg S o r (S 0 1) with
    | false => exact ⟨0, h⟩
    | true =>
      obtain ⟨e, he, h1⟩ := chg_t hG h
      have h2 := sm_strict (f := rnd S o r (S 0 1)) (g := r) N (fun i _ => rnd_mono S o r i (Nat.zero_le _)) he h1
      obtain ⟨M, hM⟩ := ih (rnd S o r (S 0 1)) (by omega)
      rw [itr_s] at hM
      exact ⟨M + 1, hM⟩
/-- after so many rounds as there are ends nothing changes -/
theorem itr_40 {S : Nat → Nat → Nat} {o : Nat → Bool} {N : Nat} {src : Nat → Bool} {r : Nat → Nat} (hG : Gr S N) (h : Gd S o N src r) (hsrc : ∀ e, e < N → src e = true → r e = 0) (he0 : ∃ e, e < N ∧ r e = 0) (n : Nat) (hn : chg S o (itr S o r n) (S 0 1) = true) : n < 40 := by
  obtain ⟨M, hM⟩ := itr_end (o := o) hG _ r (Nat.le_refl _)
  generalize hd : itr S o r M = d at hM
  have hrest : ∀ j, itr S o r (M + j) = d := fun j => by rw [← hd]; exact itr_rest (by rw [hd]; exact hM) j
  have hdl : ∀ i e, d e ≤ itr S o r i e := fun i e => by
    have h1 := hrest i
    have h2 := itr_mono S o r e i M
    rw [Nat.add_comm] at h2
    rw [h1] at h2
    exact h2
  have hdG : Gd S o N src d := hd ▸ itr_Gd hG h M
  have key : ∀ i, (∀ e, e < N → itr S o r i e = d e) ∨ i + 1 ≤ sm (fun e => if itr S o r i e = d e then 1 else 0) 0 N := by
    intro i
    induction i with
    | zero =>
      right
      obtain ⟨e, he, h1⟩ := he0
      have h2 : itr S o r 0 e = d e := by
        have := hdl 0 e
        have h3 : itr S o r 0 e = 0 := h1
        omega
      have h3 := sm_strict (f := fun _ => 0) (g := fun e => if itr S o r 0 e = d e then 1 else 0) N (fun i _ => Nat.zero_le _) he (by show 0 < _; rw [if_pos h2]; decide)
      omega
    | succ i ih =>
      rcases ih with ih | ih
      · left
        intro e he
        have h1 := ih e he
        have h2 := hdl (i + 1) e
        have h3 := itr_step S o r i e
        omega
      · by_cases hall : ∀ e, e < N → itr S o r i e = d e
        · left
          intro e he
          have h1 := hall e he
          have h2 := hdl (i + 1) e
          have h3 := itr_step S o r i e
          omega
        · right
          have hex : ∃ v, ∃ e, e < N ∧ itr S o r i e ≠ d e ∧ d e = v := by
            refine Classical.byContradiction fun q => hall fun e he => ?_
            refine Classical.byContradiction fun z => q ⟨d e, e, he, z, rfl⟩
          obtain ⟨v, ⟨e, he, hne, hv⟩, hmin⟩ := pk_least _ hex
          have hlt : d e < itr S o r i e := by
            have := hdl i e
            omega
          have hi0 : itr S o r i e ≤ r e := by
            have := itr_mono S o r e 0 i
            rw [Nat.zero_add] at this
            exact this
          have hsm := (itr_Gd hG h i).sm hG.1 he
          have hdn : d e ≠ 1000000 := by omega
          rcases hdG.2 e he with y | ⟨y1, y2⟩ | ⟨p, y1, y2, y3, y4, y5⟩
          · exact absurd y hdn
          · have := hsrc e he y2
            omega
          · obtain ⟨g1, g2, g3, g4, g5, g6⟩ := hG.2 p y1
            have hst : itr S o r i (S 7 p) = d (S 7 p) := by
              refine Classical.byContradiction fun z => ?_
              exact hmin (d (S 7 p)) (by omega) ⟨S 7 p, g1, z, rfl⟩
            have hq1 : rnd S o (itr S o r i) p (S 7 p) ≤ itr S o r i (S 7 p) := rnd_mono S o _ _ (Nat.zero_le p)
            have hq2 : itr S o r (i + 1) (S 7 p) ≤ rnd S o (itr S o r i) p (S 7 p) := rnd_mono S o _ _ (Nat.le_of_lt y1)
            have hq3 := hdl (i + 1) (S 7 p)
            have hq : rnd S o (itr S o r i) p (S 7 p) = d (S 7 p) := by omega
            have hb := sBh_g (o := o) (r := rnd S o (itr S o r i) p) g6 (by rw [hq]; exact hdG.sm hG.1 g1)
            rw [hq, if_pos ⟨y2, y4⟩] at hb
            have h5 : itr S o r (i + 1) e ≤ d e := by
              have a1 : itr S o r (i + 1) (fl (S 8 p)) ≤ rnd S o (itr S o r i) (p + 1) (fl (S 8 p)) := rnd_mono S o _ _ y1
              have a2 : rnd S o (itr S o r i) (p + 1) (fl (S 8 p)) ≤ sBh S o (rnd S o (itr S o r i) p) p := rlx_at _ _ _ _
              rw [y3] at a1 a2
              omega
            have h6 : itr S o r (i + 1) e = d e := by
              have := hdl (i + 1) e
              omega
            have h7 := sm_strict (f := fun e => if itr S o r i e = d e then 1 else 0) (g := fun e => if itr S o r (i + 1) e = d e then 1 else 0) N (fun x _ => by
              show (if itr S o r i x = d x then 1 else 0) ≤ (if itr S o r (i + 1) x = d x then 1 else 0)
              by_cases z : itr S o r i x = d x
              · have b1 := hdl (i + 1) x
                have b2 := itr_step S o r i x
                rw [if_pos z, if_pos (by omega)]
                exact Nat.le_refl _
              · rw [if_neg z]
                exact Nat.zero_le _) he (by
              show (if itr S o r i e = d e then 1 else 0) < (if itr S o r (i + 1) e = d e then 1 else 0)
              rw [if_neg hne, if_pos h6]
              decide)
            omega
  have hfin : ∀ i, 40 ≤ i → ∀ e, e < N → itr S o r i e = d e := by
    intro i hi e he
    have h39 : ∀ e, e < N → itr S o r 39 e = d e := by
      rcases key 39 with q | q
      · exact q
      · intro e he
        have hN := hG.1
        have h1 := sm_full (f := fun e => if itr S o r 39 e = d e then 1 else 0) (fun i => by split <;> omega) N (by omega) e he
        refine Classical.byContradiction fun z => ?_
        simp only [if_neg z] at h1
        omega
    have h1 := h39 e he
    have h2 := itr_mono S o r e 39 (i - 39)
    rw [show 39 + (i - 39) = i by omega] at h2
    have h3 := hdl i e
    omega
  refine Classical.byContradiction fun q => ?_
  obtain ⟨e, he, h1⟩ := chg_t hG hn
  have h2 := hfin n (by omega) e he
  have h3 : itr S o r (n + 1) e = d e := hfin (n + 1) (by omega) e he
  have h4 : itr S o r (n + 1) e < itr S o r n e := h1
  omega
