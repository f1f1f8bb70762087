/-! Arrays' contents beyond their length, worlds with one place told otherwise; a static method that writes. -/
theorem arrV_c {cA : ClassId} {n : Nat} {f g : Nat → Value} (h : ∀ j, j < n → f j = g j) : arrV cA n f = arrV cA n g := by
  unfold arrV
  have : (fun j : Fin n => f j.val) = fun j : Fin n => g j.val := funext fun j => h j.val j.isLt
  rw [this]
theorem va_P_alt {D : va_G} {cl : List vw_C} {ws : va_W} {H : Heap} {i x : Nat} {e e' : va_E} (h : va_P D cl ws H) (hi : ws[i]? = some (x, e)) (he : va_at D cl (x, e) H → va_at D cl (x, e') H) : va_P D cl (ws.set i (x, e')) H := by
  intro k q hk
  by_cases z : k = i
  · subst z
    have hlt := (List.getElem?_eq_some_iff.mp hi).1
    rw [List.getElem?_set_self hlt] at hk
    cases hk
    exact he (h k _ hi)
  · rw [List.getElem?_set_ne (by omega)] at hk
    exact h k q hk
/-- an array of ints is known by its places below its length -/
theorem va_P_int {D : va_G} {cl : List vw_C} {ws : va_W} {H : Heap} {i x n : Nat} {cA : ClassId} {f g : Nat → Int32} (h : va_P D cl ws H) (hi : ws[i]? = some (x, .inl (cA, n, .inl f))) (hfg : ∀ j, j < n → f j = g j) : va_P D cl (ws.set i (x, .inl (cA, n, .inl g))) H := by
  refine va_P_alt h hi (fun q => ?_)
  have e : vp_cell cA (n, .inl f) = vp_cell cA (n, .inl g) := by
    rw [vp_cell_i, vp_cell_i]
    exact arrV_c (fun j hj => by rw [hfg j hj])
  have q2 : H[x]? = some (vp_cell cA (n, .inl f)) := q
  rw [e] at q2
  exact q2
theorem va_D_set {A : Nat → Prop} {ws : va_W} {i x : Nat} {e e' : va_E} (h : va_D A ws) (hi : ws[i]? = some (x, e)) : va_D A (ws.set i (x, e')) := h.set hi
section NC2
variable {p : Program} {l : Launch} {e : Env} {R : Room} {s : State} {m : MethodId} {args : Array Value} {below : List Frame} {meth : Method} {c : Code} {H : Heap} {locs : List Loc} {cells slots : Nat} {Q : State → Prop}
variable {cc : ByteArray} {pc : Nat} {ls : Array Slot} {rest As stk : List Value} {D : va_G} {k : Nat → ClassId} {A : Nat → Prop} {b : Nat} {H0 : Heap} {Wd : va_W}
variable {y : MethodName} {bytes : ByteArray} {maxL nL n index mc ms : Nat} {ret : Option FieldType} {ws : List Cond} {rm : Room} {Ts : List Cond} {own C host : String} {v : Int32}
theorem wr_Sv {σ : Type} {F : σ → va_W} {post : σ → Prop} (S : CallFix p m c cc nL s args Ts own) (hM : Met l y ws rm (va_Pc As (wB D k Wd H.size)) (va_Qv post (fun u t => wE D (va_A Wd H.size) (F u) t) (va_A Wd H.size)) mc ms (va_A Wd H.size)) (cw : CallB R s args own index y bytes maxL ret ws rm mc ms n ∧ (Cond.static y).before args s = true)
    (hX : KX D k s) (hP : va_P D vwCl Wd H) (hD : va_D A Wd) (hS : va_S A H0 H locs) (hA : ∀ q, H0.size ≤ q → A q) (hn : As.length = n) (hsize : ls.size = nL) (hstk : stk = As.reverse ++ rest) (h8 : (rest.map fun v => v.category).sum ≤ 8)
    (hdg : decode cc pc = .ok (.invokestatic index, 3)) (hf : cells + mc ≤ R.cells ∧ slots + ms ≤ R.slots) (kk : ∀ (u : σ) (H1 : Heap) (locs1 : List Loc), post u → va_P D vwCl (F u) H1 → va_D A (F u) → va_S A H0 H1 locs1 → W p l e R s m args below meth c H1 locs1 (cells + mc) (slots + ms) Q (F0 m (pc + 3) ls rest)) : W p l e R s m args below meth c H locs cells slots Q (F0 m pc ls stk) := by
  subst hstk
  have hFc := wA_free hD hS hA
  refine va_callv (va_runS (As := As) (rest := rest) S hM cw ⟨wB_blind, fun U hU hW => ⟨rfl, by rw [hU], by rw [hU]; exact hP, hX.warm hW, hD.weaken (fun _ _ _ _ => trivial)⟩⟩ rfl hn hsize rfl (lv_room h8) hdg hf) hS (fun q _ h => hFc q h) hFc (fun u t H1 locs1 ht hvm hw hB hz1 hk1 hS1 => ?_)
  obtain ⟨hP1, hD1⟩ := hB
  rw [ht] at hP1
  exact kk u H1 locs1 hw hP1 (hD1.weaken (fun _ _ _ h => hFc _ h)) hS1
end NC2
theorem fillG_s (Z : Nat → Nat → Nat) (f i : Nat) (F : Nat → Nat) {v : Nat} (hv : v = F i) : up2 (upR Z f (fun j => if j < i then F j else Z f j)) f i v = upR Z f (fun j => if j < i + 1 then F j else Z f j) := by
  rw [up2, upR_upR, upR_same, hv]
  refine congrArg (upR Z f) (funext fun j => ?_)
  unfold up1
  by_cases q : j = i
  · rw [if_pos q, if_pos (by omega), q]
  · rw [if_neg q]
    dsimp only
    by_cases z : j < i
    · rw [if_pos z, if_pos (by omega)]
    · rw [if_neg z, if_neg (by omega)]
theorem fillG_0 (Z : Nat → Nat → Nat) (f : Nat) (F : Nat → Nat) : Z = upR Z f (fun j => if j < 0 then F j else Z f j) := by
  have : (fun j => if j < 0 then F j else Z f j) = Z f := funext fun j => if_neg (Nat.not_lt_zero _)
  rw [this, upR_id]
/-- the first i ends told: those by which the first piece may be left are reached at 0 -/
def rG (S : Nat → Nat → Nat) (a i : Nat) : Nat → Nat := fun j => if j < i ∧ src0 S a j = true then 0 else 1000000
theorem src0_div {S : Nat → Nat → Nat} {a j : Nat} (h : src0 S a j = true) : j / 2 = a ∧ mvL S j = true := by
  unfold src0 at h
  simp at h
  exact h
theorem src0_of {S : Nat → Nat → Nat} {a j : Nat} (h : j / 2 = a) (h2 : mvL S j = true) : src0 S a j = true := by
  unfold src0
  rw [decide_eq_true h, h2]
  rfl
theorem rG_0 (S : Nat → Nat → Nat) (a : Nat) : (fun _ => 1000000) = rG S a (2 * a) := by
  funext j
  unfold rG
  rw [if_neg]
  intro q
  have := (src0_div q.2).1
  omega
theorem rG_y {S : Nat → Nat → Nat} {a i : Nat} (hi : i / 2 = a) (h : mvL S i = true) : up1 (rG S a i) i 0 = rG S a (i + 1) := by
  funext j
  unfold up1 rG
  by_cases q : j = i
  · subst q
    rw [if_pos rfl, if_pos ⟨by omega, src0_of hi h⟩]
  · rw [if_neg q]
    by_cases z : j < i ∧ src0 S a j = true
    · rw [if_pos z, if_pos ⟨by omega, z.2⟩]
    · rw [if_neg z, if_neg]
      intro w
      exact z ⟨by omega, w.2⟩
theorem rG_n {S : Nat → Nat → Nat} {a i : Nat} (h : mvL S i = false) : rG S a i = rG S a (i + 1) := by
  funext j
  unfold rG
  by_cases z : j < i ∧ src0 S a j = true
  · rw [if_pos z, if_pos ⟨by omega, z.2⟩]
  · rw [if_neg z, if_neg]
    intro w
    by_cases q : j = i
    · subst q
      have := (src0_div w.2).2
      rw [h] at this
      cases this
    · exact z ⟨by omega, w.2⟩
theorem rG_e {S : Nat → Nat → Nat} {a : Nat} (ha : a < S 0 0) : rG S a (2 * a + 2) = rs S a (fun _ => 1000000) := by
  funext j
  unfold rG rs
  by_cases z : src0 S a j = true
  · have := (src0_div z).1
    rw [if_pos ⟨by omega, z⟩, if_pos (by omega), if_pos z]
  · rw [if_neg (fun q => z q.2), if_neg z]
    split <;> rfl
theorem Rb_nv : Rb (fun _ => 1000000) := fun _ => Or.inl rfl
theorem rG_le (S : Nat → Nat → Nat) (a i e : Nat) : rG S a i e ≤ 1000000 := by
  unfold rG
  split <;> omega
theorem chg_e {S : Nat → Nat → Nat} {o : Nat → Bool} {r : Nat → Nat} : bN (chg S o r (S 0 1)) = 1 ∨ bN (chg S o r (S 0 1)) = 0 ∧ chg S o (rnd S o r (S 0 1)) (S 0 1) = false := by
  cases q : chg S o r (S 0 1) with
  | true => exact Or.inl rfl
  | false => exact Or.inr ⟨rfl, chg_c q⟩
