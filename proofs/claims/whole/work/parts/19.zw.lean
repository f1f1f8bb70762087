/-! The way: from an end to the one before it, until one that is reached at 0. -/
theorem fl_fl (e : Nat) : fl (fl e) = e := by
  unfold fl
  split <;> split <;> omega
theorem chg_sub {S : Nat → Nat → Nat} {o : Nat → Bool} {r : Nat → Nat} {p : Nat} (h : chg S o r (S 0 1) = false) (hp : p ≤ S 0 1) : chg S o r p = false := by
  cases q : chg S o r p with
  | false => rfl
  | true =>
    obtain ⟨i, hi, h1⟩ := anyB_e p q
    have := anyB_f _ h i (by omega)
    rw [this] at h1
    cases h1
theorem stab {S : Nat → Nat → Nat} {o : Nat → Bool} {r : Nat → Nat} {p : Nat} (h : chg S o r (S 0 1) = false) (hp : p < S 0 1) : r (fl (S 8 p)) ≤ sBh S o r p := by
  have h1 := chg_f p (chg_sub h (Nat.le_of_lt hp))
  have h2 := anyB_f _ h p hp
  have h3 : ¬ sBh S o (rnd S o r p) p < rnd S o r p (fl (S 8 p)) := by simpa using h2
  rw [h1] at h3
  omega
theorem ff_pos {P : Nat → Bool} : ∀ n, (∃ p, p < n ∧ P p = true) → 0 < ff P n
  | 0, h => by obtain ⟨p, hp, -⟩ := h; omega
  | n + 1, h => by
    obtain ⟨p, hp, h1⟩ := h
    unfold ff
    by_cases q : ff P n = 0
    · rw [if_pos q]
      rcases Nat.lt_or_eq_of_le (Nat.le_of_lt_succ hp) with z | z
      · have := ff_pos n ⟨p, z, h1⟩
        omega
      · rw [← z, if_pos h1]
        omega
    · rw [if_neg q]
      omega
theorem ff_z {P : Nat → Bool} : ∀ n, (∀ p, p < n → ¬ P p = true) → ff P n = 0
  | 0, _ => rfl
  | n + 1, h => by
    unfold ff
    rw [if_pos (ff_z n (fun p hp => h p (by omega))), if_neg (h n (by omega))]
/-- what the way rests on: a graph, lengths of at least 1, passages between two pieces -/
def Gw (S : Nat → Nat → Nat) : Prop := Gr S (2 * S 0 0) ∧ ∀ p, p < S 0 1 → 1 ≤ S 2 (S 8 p / 2) ∧ S 7 p / 2 ≠ S 8 p / 2
/-- the end of the rounds from a -/
def Fx (S : Nat → Nat → Nat) (o : Nat → Bool) (a : Nat) (r : Nat → Nat) : Prop := Gd S o (2 * S 0 0) (src0 S a) r ∧ chg S o r (S 0 1) = false
theorem Fx_of {S : Nat → Nat → Nat} {o : Nat → Bool} {a : Nat} {old : Nat → Nat} (hG : Gr S (2 * S 0 0)) (h : Rb old) (ha : a < S 0 0) : Fx S o a (itr S o (rs S a old) 40) := by
  refine ⟨(Okr.itr hG (rs_Okr h) 40).1, ?_⟩
  cases q : chg S o (itr S o (rs S a old) 40) (S 0 1) with
  | false => rfl
  | true => exact absurd (rs_40 hG h ha 40 q) (by omega)
theorem Fx_pre {S : Nat → Nat → Nat} {o : Nat → Bool} {a e : Nat} {r : Nat → Nat} (hW : Gw S) (hF : Fx S o a r) (he : e < 2 * S 0 0) (h1 : r e ≠ 1000000) (h0 : r e ≠ 0) : 0 < pBf S o r e ∧ pBf S o r e ≤ S 0 1 ∧ S 8 (pBf S o r e - 1) = fl e ∧ o (pBf S o r e - 1) = true ∧ r (S 7 (pBf S o r e - 1)) ≠ 1000000 ∧ r (S 7 (pBf S o r e - 1)) + wt S (pBf S o r e - 1) = r e := by
  have hG := hW.1
  have hex : ∃ p, p < S 0 1 ∧ decide (S 8 p = fl e ∧ sBh S o r p = r e) = true := by
    rcases hF.1.2 e he with y | ⟨y1, -⟩ | ⟨p, y1, y2, y3, y4, y5⟩
    · exact absurd y h1
    · exact absurd y1 h0
    · refine ⟨p, y1, decide_eq_true ⟨by rw [← y3, fl_fl], ?_⟩⟩
      obtain ⟨g1, g2, g3, g4, g5, g6⟩ := hG.2 p y1
      have hb := sBh_g (o := o) g6 (hF.1.sm hG.1 g1)
      rw [if_pos ⟨y2, y4⟩] at hb
      have hs := stab hF.2 y1
      rw [y3] at hs
      omega
  have hp := ff_pos _ hex
  have hpb : pBf S o r e = ff (fun p => decide (S 8 p = fl e ∧ sBh S o r p = r e)) (S 0 1) := if_neg h0
  rw [hpb]
  have hok := ff_ok (P := fun p => decide (S 8 p = fl e ∧ sBh S o r p = r e)) (S 0 1)
  generalize ff (fun p => decide (S 8 p = fl e ∧ sBh S o r p = r e)) (S 0 1) = f at hp hok
  have hP := of_decide_eq_true (hok.2 hp)
  obtain ⟨g1, g2, g3, g4, g5, g6⟩ := hG.2 (f - 1) (by have := hok.1; omega)
  have hb := sBh_g (o := o) g6 (hF.1.sm hG.1 g1)
  have hop : o (f - 1) = true ∧ r (S 7 (f - 1)) ≠ 1000000 := by
    refine Classical.byContradiction fun z => ?_
    rw [if_neg z] at hb
    exact h1 (by rw [← hP.2, hb])
  rw [if_pos hop] at hb
  exact ⟨hp, hok.1, hP.1, hop.1, hop.2, by rw [← hb, hP.2]⟩
theorem lpB_min {S : Nat → Nat → Nat} {o : Nat → Bool} {r : Nat → Nat} {t : Nat} : ∀ n, (∀ p, p < n → S 8 p / 2 = t → (lpB S o r t n).2 ≤ sAt S o r p ∨ sAt S o r p ≥ 1000000) ∧ (0 < (lpB S o r t n).1 → S 8 ((lpB S o r t n).1 - 1) / 2 = t ∧ sAt S o r ((lpB S o r t n).1 - 1) = (lpB S o r t n).2 ∧ (lpB S o r t n).2 < 1000000 ∧ ∀ p, p < (lpB S o r t n).1 - 1 → S 8 p / 2 = t → (lpB S o r t n).2 < sAt S o r p)
  | 0 => ⟨fun p hp => absurd hp (Nat.not_lt_zero _), fun h => absurd h (by simp [lpB])⟩
  | n + 1 => by
    have ih := lpB_min (S := S) (o := o) (r := r) (t := t) n
    have hle := (lpB_ok (S := S) (o := o) (r := r) (t := t) n)
    by_cases q : S 8 n / 2 = t ∧ sAt S o r n < (lpB S o r t n).2
    · rw [lpB_y rfl q.1 q.2]
      dsimp only
      refine ⟨fun p hp hg => ?_, fun _ => ⟨q.1, rfl, ?_, fun p hp hg => ?_⟩⟩
      · rcases Nat.lt_or_eq_of_le (Nat.le_of_lt_succ hp) with z | z
        · rcases ih.1 p z hg with y | y
          · left; have := q.2; omega
          · right; exact y
        · left; rw [z]; exact Nat.le_refl _
      · have := q.2; have := hle.2.1; omega
      · have hp' : p < n := by omega
        have h2 := q.2
        have h3 := hle.2.1
        rcases ih.1 p hp' hg with y | y <;> omega
    · rw [lpB_n rfl q]
      refine ⟨fun p hp hg => ?_, ih.2⟩
      rcases Nat.lt_or_eq_of_le (Nat.le_of_lt_succ hp) with z | z
      · exact ih.1 p z hg
      · subst z
        have : ¬ sAt S o r p < (lpB S o r t p).2 := fun w => q ⟨hg, w⟩
        left
        omega
/-- the reference's last join is the system's -/
theorem lEn_eq {S : Nat → Nat → Nat} {o : Nat → Bool} {r : Nat → Nat} {t : Nat} (h : 0 < (lpB S o r t (S 0 1)).1) : lEn S o r t (lpB S o r t (S 0 1)).2 (S 0 1) = (lpB S o r t (S 0 1)).1 := by
  have hm := (lpB_min (S := S) (o := o) (r := r) (t := t) (S 0 1)).2 h
  have hl := (lpB_ok (S := S) (o := o) (r := r) (t := t) (S 0 1)).1
  generalize lpB S o r t (S 0 1) = y at h hm hl
  obtain ⟨b, x⟩ := y
  dsimp only at h hm hl ⊢
  obtain ⟨h1, h2, h3, h4⟩ := hm
  unfold lEn
  have hz : ff (fun p => decide (S 8 p / 2 = t ∧ sAt S o r p = x ∧ sAt S o r p ≠ 1000000)) (b - 1) = 0 := ff_z _ (fun p hp q => by
    have q2 := of_decide_eq_true q
    have := h4 p hp q2.1
    omega)
  have hy := ff_y hz (decide_eq_true ⟨h1, h2, by omega⟩) (S 0 1) (by omega)
  rw [hy]
  omega
theorem pBf_eq {S : Nat → Nat → Nat} {o : Nat → Bool} {r : Nat → Nat} {e : Nat} (h : r e ≠ 0) : pBf S o r e = bEn S o r e (S 0 1) := if_neg h
/-- how many ends are reached later than e, but for the last piece's -/
def cG (r : Nat → Nat) (t e n : Nat) : Nat := sm (fun y => if r e < r y ∧ y / 2 ≠ t then 1 else 0) 0 n
theorem cG_le {r : Nat → Nat} {t e n : Nat} (he : e < n) (ht : 2 * t < n) (h : e / 2 ≠ t) : cG r t e n + 2 ≤ n := by
  have h1 := sm_up (f := fun y => if r e < r y ∧ y / 2 ≠ t then 1 else 0) (g := up1 (fun y => if r e < r y ∧ y / 2 ≠ t then 1 else 0) e 1) (k := e) (fun i hi => up1_ne _ _ hi) n he
  rw [up1_same, if_neg (fun q => Nat.lt_irrefl _ q.1)] at h1
  have h2 := sm_up (f := up1 (fun y => if r e < r y ∧ y / 2 ≠ t then 1 else 0) e 1) (g := up1 (up1 (fun y => if r e < r y ∧ y / 2 ≠ t then 1 else 0) e 1) (2 * t) 1) (k := 2 * t) (fun i hi => up1_ne _ _ hi) n ht
  rw [up1_same, up1_ne _ _ (show 2 * t ≠ e by omega), if_neg (fun q => q.2 (by omega))] at h2
  have h3 := sm_le (f := up1 (up1 (fun y => if r e < r y ∧ y / 2 ≠ t then 1 else 0) e 1) (2 * t) 1) (a := 0) (fun i => by
    unfold up1
    split
    · exact Nat.le_refl _
    · split
      · exact Nat.le_refl _
      · dsimp only
        split <;> omega) n
  unfold cG
  omega
/-- a place of the way: the end e, the piece of which goes to place n -/
def Ck (S : Nat → Nat → Nat) (r : Nat → Nat) (t x n e : Nat) : Prop := e < 2 * S 0 0 ∧ r e ≠ 1000000 ∧ r e ≤ x ∧ e / 2 ≠ t ∧ n ≤ 1 + cG r t e (2 * S 0 0)
theorem Ck_lt {S : Nat → Nat → Nat} {r : Nat → Nat} {t x n e : Nat} (hW : Gw S) (ht : t < S 0 0) (h : Ck S r t x n e) : n ≤ 39 := by
  have h1 := cG_le (r := r) h.1 (show 2 * t < 2 * S 0 0 by omega) h.2.2.2.1
  have h2 := hW.1.1
  have h3 := h.2.2.2.2
  omega
theorem Ck_first {S : Nat → Nat → Nat} {o : Nat → Bool} {a t : Nat} {r : Nat → Nat} (hW : Gw S) (hF : Fx S o a r) (hb : 0 < (lpB S o r t (S 0 1)).1) : Ck S r t (lpB S o r t (S 0 1)).2 1 (S 7 ((lpB S o r t (S 0 1)).1 - 1)) := by
  have hm := (lpB_min (S := S) (o := o) (r := r) (t := t) (S 0 1)).2 hb
  have hl := (lpB_ok (S := S) (o := o) (r := r) (t := t) (S 0 1)).1
  generalize lpB S o r t (S 0 1) = y at hb hm hl
  obtain ⟨b, x⟩ := y
  dsimp only at hb hm hl ⊢
  obtain ⟨h1, h2, h3, -⟩ := hm
  obtain ⟨g1, -⟩ := hW.1.2 (b - 1) (by omega)
  have hop : o (b - 1) = true ∧ r (S 7 (b - 1)) ≠ 1000000 := Classical.byContradiction fun z => by
    have := sAt_none (S := S) (o := o) (r := r) (p := b - 1) z
    omega
  have hs := sAt_some (S := S) hop.1 hop.2
  refine ⟨g1, hop.2, by omega, ?_, by omega⟩
  have := (hW.2 (b - 1) (by omega)).2
  omega
theorem Ck_next {S : Nat → Nat → Nat} {o : Nat → Bool} {a t n e : Nat} {r : Nat → Nat} (hW : Gw S) (hF : Fx S o a r) (hat : a ≠ t) (h : Ck S r t (lpB S o r t (S 0 1)).2 n e) (h0 : r e ≠ 0) (hx : (lpB S o r t (S 0 1)).2 < 1000000) :
    Ck S r t (lpB S o r t (S 0 1)).2 (n + 1) (S 7 (pBf S o r e - 1)) := by
  obtain ⟨he, h1, h2, h3, h4⟩ := h
  obtain ⟨p1, p2, p3, p4, p5, p6⟩ := Fx_pre hW hF he h1 h0
  generalize hq : pBf S o r e - 1 = p at p3 p4 p5 p6 ⊢
  have hp : p < S 0 1 := by omega
  obtain ⟨g1, g2, g3, g4, g5, g6⟩ := hW.1.2 p hp
  have hne : S 7 p / 2 ≠ t := by
    intro hz
    by_cases z0 : r (S 7 p) = 0
    · rcases hF.1.2 (S 7 p) g1 with y | ⟨-, y2⟩ | ⟨p', y1, y2, y3, y4, y5⟩
      · exact p5 y
      · have := (src0_div y2).1
        omega
      · have := (hW.1.2 p' y1).2.2.2.1
        omega
    · obtain ⟨s1, s2, s3, s4, s5, s6⟩ := Fx_pre hW hF g1 p5 z0
      generalize hq2 : pBf S o r (S 7 p) - 1 = p' at s3 s4 s5 s6
      have hp' : p' < S 0 1 := by omega
      have hg : S 8 p' / 2 = t := by rw [s3, fl_div]; exact hz
      have hm := (lpB_min (S := S) (o := o) (r := r) (t := t) (S 0 1)).1 p' hp' hg
      have hs := sAt_some (S := S) (r := r) s4 s5
      have hl := (hW.2 p' hp').1
      have hsm := hF.1.sm hW.1.1 he
      unfold wt at s6
      unfold wt at p6
      omega
  refine ⟨g1, p5, by omega, hne, ?_⟩
  have hst := sm_strict (f := fun y => if r e < r y ∧ y / 2 ≠ t then 1 else 0) (g := fun y => if r (S 7 p) < r y ∧ y / 2 ≠ t then 1 else 0) (k := e) (2 * S 0 0) (fun y _ => by
    show (if r e < r y ∧ y / 2 ≠ t then 1 else 0) ≤ (if r (S 7 p) < r y ∧ y / 2 ≠ t then 1 else 0)
    by_cases z : r e < r y ∧ y / 2 ≠ t
    · rw [if_pos z, if_pos ⟨by omega, z.2⟩]
      exact Nat.le_refl _
    · rw [if_neg z]
      exact Nat.zero_le _) he (by
    show (if r e < r e ∧ e / 2 ≠ t then 1 else 0) < (if r (S 7 p) < r e ∧ e / 2 ≠ t then 1 else 0)
    rw [if_neg (fun q => Nat.lt_irrefl _ q.1), if_pos ⟨by omega, h3⟩]
    decide)
  unfold cG at h4 ⊢
  omega
/-- the way's row from place n on, the end e, and its size -/
def wChn (S : Nat → Nat → Nat) (o : Nat → Bool) (r : Nat → Nat) : Nat → (Nat → Nat) → Nat → Nat → (Nat → Nat) × Nat
  | 0, A, n, _ => (A, n)
  | f + 1, A, n, e => if r e = 0 then (up1 A n (e / 2), n + 1) else wChn S o r f (up1 A n (e / 2)) (n + 1) (S 7 (pBf S o r e - 1))
def wayE (S : Nat → Nat → Nat) (o : Nat → Bool) (r : Nat → Nat) (a t : Nat) : (Nat → Nat) × Nat :=
  if a = t then (up1 (S 14) 0 t, 1) else if (lpB S o r t (S 0 1)).1 = 0 then (S 14, 0) else wChn S o r 41 (up1 (S 14) 0 t) 1 (S 7 ((lpB S o r t (S 0 1)).1 - 1))
/-- the state behind way() -/
def waS (S : Nat → Nat → Nat) (w h a t : Nat) : Nat → Nat → Nat := up2 (upR S 14 (wayE S (opn S w h) (fin S (opn S w h) a) a t).1) 0 6 (wayE S (opn S w h) (fin S (opn S w h) a) a t).2
theorem wChn_0 {S : Nat → Nat → Nat} {o : Nat → Bool} {r : Nat → Nat} {f : Nat} {A : Nat → Nat} {n e : Nat} (hf : 0 < f) (h : r e = 0) : wChn S o r f A n e = (up1 A n (e / 2), n + 1) := by
  obtain ⟨g, rfl⟩ : ∃ g, f = g + 1 := ⟨f - 1, by omega⟩
  exact if_pos h
theorem wChn_s {S : Nat → Nat → Nat} {o : Nat → Bool} {r : Nat → Nat} {f : Nat} {A : Nat → Nat} {n e : Nat} (hf : 0 < f) (h : r e ≠ 0) : wChn S o r f A n e = wChn S o r (f - 1) (up1 A n (e / 2)) (n + 1) (S 7 (pBf S o r e - 1)) := by
  obtain ⟨g, rfl⟩ : ∃ g, f = g + 1 := ⟨f - 1, by omega⟩
  exact if_neg h
theorem pBf_cg {S : Nat → Nat → Nat} {o : Nat → Bool} {N e : Nat} {r r' : Nat → Nat} (hG : Gr S N) (hr : ∀ e, e < N → r e = r' e) (he : e < N) : pBf S o r e = pBf S o r' e := by
  have key : ∀ n, n ≤ S 0 1 → ff (fun p => decide (S 8 p = fl e ∧ sBh S o r p = r e)) n = ff (fun p => decide (S 8 p = fl e ∧ sBh S o r' p = r' e)) n := by
    intro n
    induction n with
    | zero => intro _; rfl
    | succ n ih =>
      intro hn
      have h1 : sBh S o r n = sBh S o r' n := sBh_cg rfl (hr _ (hG.2 n (by omega)).1)
      unfold ff
      rw [ih (by omega), h1, hr e he]
  unfold pBf
  rw [key _ (Nat.le_refl _), hr e he]
theorem wChn_cg {S : Nat → Nat → Nat} {o : Nat → Bool} {a t : Nat} {r r' : Nat → Nat} (hW : Gw S) (hF : Fx S o a r) (hat : a ≠ t) (hx : (lpB S o r t (S 0 1)).2 < 1000000) (hr : ∀ e, e < 2 * S 0 0 → r e = r' e) : ∀ f A n e, Ck S r t (lpB S o r t (S 0 1)).2 n e → wChn S o r f A n e = wChn S o r' f A n e
  | 0, _, _, _, _ => rfl
  | f + 1, A, n, e, h => by
    unfold wChn
    rw [← hr e h.1, ← pBf_cg hW.1 hr h.1]
    by_cases z : r e = 0
    · rw [if_pos z, if_pos z]
    · rw [if_neg z, if_neg z]
      exact wChn_cg hW hF hat hx hr f _ _ _ (Ck_next hW hF hat h z hx)
theorem wayE_cg {S : Nat → Nat → Nat} {o : Nat → Bool} {a t : Nat} {r r' : Nat → Nat} (hW : Gw S) (hF : Fx S o a r) (hr : ∀ e, e < 2 * S 0 0 → r e = r' e) : wayE S o r a t = wayE S o r' a t := by
  unfold wayE
  have hl := lpB_cg (t := t) (o := o) (o' := o) hW.1 (fun _ _ => rfl) hr (S 0 1) (Nat.le_refl _)
  by_cases z : a = t
  · rw [if_pos z, if_pos z]
  · rw [if_neg z, if_neg z, ← hl]
    by_cases y : (lpB S o r t (S 0 1)).1 = 0
    · rw [if_pos y, if_pos y]
    · rw [if_neg y, if_neg y]
      have hm := (lpB_min (S := S) (o := o) (r := r) (t := t) (S 0 1)).2 (by omega)
      exact wChn_cg hW hF z hm.2.2.1 hr _ _ _ _ (Ck_first hW hF (by omega))
theorem waS_m {S : Nat → Nat → Nat} {w h a t : Nat} {old : Nat → Nat} (hW : Gw S) (hR : Rb old) (ha : a < S 0 0) : up2 (upR S 14 (wayE S (opn S w h) (itr S (opn S w h) (rs S a old) 40) a t).1) 0 6 (wayE S (opn S w h) (itr S (opn S w h) (rs S a old) 40) a t).2 = waS S w h a t := by
  rw [wayE_cg hW (Fx_of hW.1 hR ha) (r' := fin S (opn S w h) a) (itr_cg hW.1 (fun _ _ => rfl) rs_cg 40)]
  rfl
theorem lEn_S {S S' : Nat → Nat → Nat} (h : Alk S S') : lEn S' = lEn S := by
  funext o r t x n
  unfold lEn
  rw [sAt_S h, h.2.2.2.2.2.2.2.2.1]
theorem bEn_S {S S' : Nat → Nat → Nat} (h : Alk S S') : bEn S' = bEn S := by
  funext o r e n
  unfold bEn
  rw [sBh_S h, h.2.2.2.2.2.2.2.2.1]
theorem atS_S {S S' : Nat → Nat → Nat} (h : Alk S S') : atS S' = atS S := by
  funext f
  unfold atS
  rw [h.2.2.2.2.2.2.2.1]
theorem atS_pos {S : Nat → Nat → Nat} {f : Nat} (h : 0 < f) : atS S f = S 7 (f - 1) + 1 := if_neg (by omega)
theorem wa_X {S X : Nat → Nat → Nat} {A : Nat → Nat} {n : Nat} (h : X = up2 (upR S 14 A) 0 6 n) : Alk S X ∧ X 11 = S 11 ∧ X 0 6 = n := by
  subst h
  exact ⟨⟨rfl, rfl, rfl, rfl, rfl, rfl, rfl, rfl, rfl, rfl, rfl⟩, rfl, rfl⟩
theorem wa_s {S X : Nat → Nat → Nat} {A : Nat → Nat} {n v : Nat} (h : X = up2 (upR S 14 A) 0 6 n) : up2 (up2 X 14 n v) 0 6 (n + 1) = up2 (upR S 14 (up1 A n v)) 0 6 (n + 1) := by
  subst h
  funext g j
  unfold up2 upR up1
  by_cases h0 : g = 0
  · subst h0
    by_cases h6 : j = 6
    · simp [h6]
    · simp [h6]
  · by_cases h14 : g = 14
    · subst h14
      simp
    · simp [h0, h14]
theorem wa_0 {S : Nat → Nat → Nat} {v : Nat} : up2 (up2 (up2 S 0 6 0) 14 0 v) 0 6 1 = up2 (upR S 14 (up1 (S 14) 0 v)) 0 6 1 := by
  have h : up2 S 0 6 0 = up2 (upR S 14 (S 14)) 0 6 0 := by rw [upR_id]
  exact wa_s h
theorem Bd_X {S X : Nat → Nat → Nat} {A : Nat → Nat} {n : Nat} (h : X = up2 (upR S 14 A) 0 6 n) (hB : Bd S) (hn : n ≤ 40) (hA : ∀ i, A i < 20) : Bd X := by
  subst h
  obtain ⟨⟨b0, b1, b2, b3, b4⟩, b5, b6, b7, b8⟩ := hB
  exact ⟨⟨b0, b1, b2, b3, hn⟩, b5, b6, b7, fun i => ⟨(b8 i).1, (b8 i).2.1, hA i⟩⟩
theorem Jn_X {S X : Nat → Nat → Nat} {A : Nat → Nat} {n : Nat} (h : X = up2 (upR S 14 A) 0 6 n) (hJ : Jn S) : Jn X := by
  subst h
  exact hJ
theorem up1_lt {A : Nat → Nat} {n v m : Nat} (h : ∀ i, A i < m) (hv : v < m) (i : Nat) : up1 A n v i < m := by
  unfold up1
  split
  · exact hv
  · exact h i
