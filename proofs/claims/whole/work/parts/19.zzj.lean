/-! Drive's scratch behind begin and spread. -/
theorem ff_cg {P P' : Nat → Bool} : ∀ n, (∀ i, i < n → P i = P' i) → ff P n = ff P' n
  | 0, _ => rfl
  | n + 1, h => by
    unfold ff
    rw [ff_cg n (fun i hi => h i (by omega)), h n (by omega)]
theorem pBf_o {S : Nat → Nat → Nat} {o o' : Nat → Bool} {r : Nat → Nat} {e : Nat} (ho : ∀ p, p < S 0 1 → o p = o' p) : pBf S o r e = pBf S o' r e := by
  unfold pBf
  rw [ff_cg (S 0 1) (fun i hi => by rw [sBh_cg (ho i hi) rfl])]
theorem wChn_o {S : Nat → Nat → Nat} {o o' : Nat → Bool} {r : Nat → Nat} (ho : ∀ p, p < S 0 1 → o p = o' p) : ∀ f A n e, wChn S o r f A n e = wChn S o' r f A n e
  | 0, _, _, _ => rfl
  | f + 1, A, n, e => by
    unfold wChn
    rw [pBf_o ho, wChn_o ho f]
theorem lpB_o {S : Nat → Nat → Nat} {o o' : Nat → Bool} {r : Nat → Nat} {t : Nat} (ho : ∀ p, p < S 0 1 → o p = o' p) : ∀ n, n ≤ S 0 1 → lpB S o r t n = lpB S o' r t n
  | 0, _ => rfl
  | n + 1, hn => by
    unfold lpB
    rw [lpB_o ho n (by omega), sAt_cg (S := S) (ho n (by omega)) rfl]
theorem wayE_o {S : Nat → Nat → Nat} {o o' : Nat → Bool} {r : Nat → Nat} {a t : Nat} (ho : ∀ p, p < S 0 1 → o p = o' p) : wayE S o r a t = wayE S o' r a t := by
  unfold wayE
  rw [lpB_o ho _ (Nat.le_refl _), wChn_o ho]
/-- the ways that are free, then what is reached from a -/
def dvO (S Z : Nat → Nat → Nat) (w h : Nat) : Nat → Nat → Nat := upR Z 0 (fun j => if j < S 0 1 then bN (opn S w h j) else Z 0 j)
def dvZ (S Z : Nat → Nat → Nat) (w h a : Nat) : Nat → Nat → Nat := upR (dvO S Z w h) 1 (itr S (oZ (dvO S Z w h)) (rs S a (fun _ => 1000000)) 40)
theorem bN_1 {b : Bool} : decide (bN b = 1) = b := by cases b <;> rfl
theorem dvO_o {S Z : Nat → Nat → Nat} {w h p : Nat} (hp : p < S 0 1) : oZ (dvO S Z w h) p = opn S w h p := by
  have h1 : dvO S Z w h 0 p = bN (opn S w h p) := by
    unfold dvO
    rw [upR_same]
    exact if_pos hp
  unfold oZ
  rw [h1]
  exact bN_1
theorem dvZ_o {S Z : Nat → Nat → Nat} {w h a : Nat} : oZ (dvZ S Z w h a) = oZ (dvO S Z w h) := rfl
theorem dvZ_1 {S Z : Nat → Nat → Nat} {w h a : Nat} : dvZ S Z w h a 1 = itr S (oZ (dvO S Z w h)) (rs S a (fun _ => 1000000)) 40 := upR_same _ _ _
theorem dvO_le {S Z : Nat → Nat → Nat} {w h : Nat} (hz : ∀ p, Z 0 p ≤ 1) (p : Nat) : dvO S Z w h 0 p ≤ 1 := by
  unfold dvO
  rw [upR_same]
  split
  · exact bN_le _
  · exact hz p
theorem dvZ_0 {S Z : Nat → Nat → Nat} {w h a : Nat} (hz : ∀ p, Z 0 p ≤ 1) (p : Nat) : dvZ S Z w h a 0 p ≤ 1 := dvO_le hz p
theorem dvZ_le {S Z : Nat → Nat → Nat} {w h a : Nat} (hG : Gr S (2 * S 0 0)) (e : Nat) : dvZ S Z w h a 1 e ≤ 1000000 := by
  rw [dvZ_1]
  exact (Rb_fin hG Rb_nv).le e
theorem dvZ_Fx {S Z : Nat → Nat → Nat} {w h a : Nat} (hG : Gr S (2 * S 0 0)) (ha : a < S 0 0) : Fx S (oZ (dvZ S Z w h a)) a (dvZ S Z w h a 1) := by
  rw [dvZ_1]
  exact Fx_of hG Rb_nv ha
theorem dvZ_r {S Z : Nat → Nat → Nat} {w h a : Nat} (hG : Gr S (2 * S 0 0)) : ∀ e, e < 2 * S 0 0 → dvZ S Z w h a 1 e = fin S (opn S w h) a e := by
  intro e he
  rw [dvZ_1]
  exact itr_cg hG (fun p hp => dvO_o hp) (fun _ _ => rfl) 40 e he
theorem dvZ_s {S Z : Nat → Nat → Nat} {w h a t : Nat} (hG : Gr S (2 * S 0 0)) : sTo S (oZ (dvZ S Z w h a)) (dvZ S Z w h a 1) a t = secs S w h a t := sTo_cg hG (fun p hp => dvO_o hp) (dvZ_r hG)
theorem dvZ_w {S Z : Nat → Nat → Nat} {w h a t : Nat} (hW : Gw S) (ha : a < S 0 0) : wayE S (oZ (dvZ S Z w h a)) (dvZ S Z w h a 1) a t = wayE S (opn S w h) (fin S (opn S w h) a) a t := by
  rw [wayE_cg hW (dvZ_Fx hW.1 ha) (dvZ_r hW.1)]
  exact wayE_o (fun p hp => dvO_o hp)
theorem cx_cg {S : Nat → Nat → Nat} {o o' : Nat → Bool} {t N : Nat} (h8 : ∀ p, p < S 0 1 → S 8 p / 2 < N) (ho : ∀ p, p < S 0 1 → o p = o' p) : ∀ (b : Nat) (m m' : Nat → Nat) (e : Nat), (∀ j, j < N → m j = m' j) → cx S o t b m e = cx S o' t b m' e
  | 0, m, m', e, hm => by
    unfold cx
    have key : ∀ n, n ≤ S 0 1 → sm (fun p => if S 7 p = e then (if o p = true ∧ m (S 8 p / 2) = 0 then (if S 8 p / 2 = t then 1 else 0) else 0) else 0) 0 n = sm (fun p => if S 7 p = e then (if o' p = true ∧ m' (S 8 p / 2) = 0 then (if S 8 p / 2 = t then 1 else 0) else 0) else 0) 0 n := by
      intro n
      induction n with
      | zero => intro _; rfl
      | succ n ih =>
        intro hn
        rw [sm_s, sm_s, ih (by omega), ho n (by omega), hm _ (h8 n (by omega))]
    exact key _ (Nat.le_refl _)
  | b + 1, m, m', e, hm => by
    unfold cx
    have key : ∀ n, n ≤ S 0 1 → sm (fun p => if S 7 p = e then (if o p = true ∧ m (S 8 p / 2) = 0 then (if S 8 p / 2 = t then 1 else cx S o t b (up1 m (S 8 p / 2) 1) (fl (S 8 p))) else 0) else 0) 0 n = sm (fun p => if S 7 p = e then (if o' p = true ∧ m' (S 8 p / 2) = 0 then (if S 8 p / 2 = t then 1 else cx S o' t b (up1 m' (S 8 p / 2) 1) (fl (S 8 p))) else 0) else 0) 0 n := by
      intro n
      induction n with
      | zero => intro _; rfl
      | succ n ih =>
        intro hn
        rw [sm_s, sm_s, ih (by omega), ho n (by omega), hm _ (h8 n (by omega)), cx_cg h8 ho b (up1 m (S 8 n / 2) 1) (up1 m' (S 8 n / 2) 1) (fl (S 8 n)) (fun j hj => by
          unfold up1
          split
          · rfl
          · exact hm j hj)]
    exact key _ (Nat.le_refl _)
/-- the first piece alone is met -/
def met1 (a : Nat) : Nat → Nat := fun j => if j = a then 1 else 0
def cpl (S : Nat → Nat → Nat) (o : Nat → Bool) (a t b : Nat) : Nat := sm (fun e => if mvL S e = true then cx S o t b (met1 a) e else 0) (2 * a) 2
theorem LV_R {S Z : Nat → Nat → Nat} {A : Nat → Nat} {f : Nat} (h : LV S Z) (hf : f < 3 := by decide) : LV S (upR Z f A) := by
  intro e he
  have h1 : upR Z f A (10 + e) = Z (10 + e) := upR_ne _ _ (by omega)
  have h2 : upR Z f A 3 = Z 3 := upR_ne _ _ (by omega)
  rw [h1, h2]
  exact h e he
