/-! Worlds side by side; the law's one long; what the law's wrappers start from; their calls. -/
theorem ap_P {D : va_G} {cl : List vw_C} {w1 w2 : va_W} {H : Heap} (h : va_P D cl (w1 ++ w2) H) : va_P D cl w1 H ∧ va_P D cl w2 H :=
  ⟨fun k q hk => h k q (by rw [List.getElem?_append_left (List.getElem?_eq_some_iff.mp hk).1]; exact hk), fun k q hk => h (w1.length + k) q (by rw [List.getElem?_append_right (Nat.le_add_right _ _), Nat.add_sub_cancel_left]; exact hk)⟩
theorem ap_D {A : Nat → Prop} {w1 w2 : va_W} (h : va_D A (w1 ++ w2)) : va_D A w1 ∧ va_D A w2 ∧ ∀ (i j : Nat) (p q : Nat × va_E), w1[i]? = some p → w2[j]? = some q → p.1 ≠ q.1 := by
  have h1 : ∀ (k : Nat) (q : Nat × va_E), w1[k]? = some q → (w1 ++ w2)[k]? = some q := fun k q hk => by rw [List.getElem?_append_left (List.getElem?_eq_some_iff.mp hk).1]; exact hk
  have h2 : ∀ (k : Nat) (q : Nat × va_E), w2[k]? = some q → (w1 ++ w2)[w1.length + k]? = some q := fun k q hk => by rw [List.getElem?_append_right (Nat.le_add_right _ _), Nat.add_sub_cancel_left]; exact hk
  refine ⟨⟨fun i j p q hp hq e => h.1 i j p q (h1 i p hp) (h1 j q hq) e, fun k q hk => h.2 k q (h1 k q hk)⟩, ⟨fun i j p q hp hq e => by have := h.1 _ _ p q (h2 i p hp) (h2 j q hq) e; omega, fun k q hk => h.2 _ q (h2 k q hk)⟩, fun i j p q hp hq e => ?_⟩
  have := h.1 _ _ p q (h1 i p hp) (h2 j q hq) e
  have hi := (List.getElem?_eq_some_iff.mp hp).1
  omega
theorem ap_out {A : Nat → Prop} {D : va_G} {cl : List vw_C} {w1 w2 : va_W} {H : Heap} (p2 : va_P D cl w2 H) (dx : ∀ (i j : Nat) (p q : Nat × va_E), w1[i]? = some p → w2[j]? = some q → p.1 ≠ q.1) : ∀ (j : Nat) (q : Nat × va_E), w2[j]? = some q → ¬ va_A w1 H.size q.1 := fun j q hq h => by
  rcases h with ⟨i, e, h⟩ | h
  · exact dx i j (q.1, e) q h hq rfl
  · exact absurd ((p2 j q hq).lt) (Nat.not_lt.mpr h)
/-- behind a call that had the first part -/
theorem ap_joinL {A : Nat → Prop} {D : va_G} {cl : List vw_C} {w1 w2 w : va_W} {H H1 : Heap} (hP : va_P D cl (w1 ++ w2) H) (hD : va_D A (w1 ++ w2)) (hk : ∀ q : Nat, q < H.size → ¬ va_A w1 H.size q → H1[q]? = H[q]?) (hF : ∀ q, va_A w1 H.size q → A q) (hP1 : va_P D cl w H1) (hD1 : va_D (va_A w1 H.size) w) : va_P D cl (w ++ w2) H1 ∧ va_D A (w ++ w2) := by
  obtain ⟨-, p2⟩ := ap_P hP
  obtain ⟨-, d2, dx⟩ := ap_D hD
  have no := ap_out (A := A) p2 dx
  refine ⟨hP1.app (p2.kept (fun j q hq => hk q.1 ((p2 j q hq).lt) (no j q hq))), (hD1.weaken (fun _ _ _ h => hF _ h)).app d2 (fun i j p q hp hq e => no j q hq ?_)⟩
  rw [← e]
  exact hD1.2 i p hp
/-- behind a call that had the second part -/
theorem ap_joinR {A : Nat → Prop} {D : va_G} {cl : List vw_C} {w1 w2 w : va_W} {H H1 : Heap} (hP : va_P D cl (w1 ++ w2) H) (hD : va_D A (w1 ++ w2)) (hk : ∀ q : Nat, q < H.size → ¬ va_A w2 H.size q → H1[q]? = H[q]?) (hF : ∀ q, va_A w2 H.size q → A q) (hP1 : va_P D cl w H1) (hD1 : va_D (va_A w2 H.size) w) : va_P D cl (w1 ++ w) H1 ∧ va_D A (w1 ++ w) := by
  obtain ⟨p1, -⟩ := ap_P hP
  obtain ⟨d1, -, dx⟩ := ap_D hD
  have no := ap_out (A := A) (w1 := w2) p1 (fun i j p q hp hq e => dx j i q p hq hp e.symm)
  refine ⟨(p1.kept (fun j q hq => hk q.1 ((p1 j q hq).lt) (no j q hq))).app hP1, d1.app (hD1.weaken (fun _ _ _ h => hF _ h)) (fun i j p q hp hq e => no i p hp ?_)⟩
  rw [e]
  exact hD1.2 j q hq
/-- the law's long[] of one -/
def oX (k : Nat → ClassId) (o : Nat) (f : Nat → Int64) : va_W := [(o, .inl (k 3, 1, .inr (.inl f)))]
def ncl : List (String × String) := [(eUO, eIA), (eIS, eIA), (eUO, eIS), (eAI, eIS)]
def lkw : List Cond := [.classLink RL 63 eAI]
def KN (U : State) : Prop := (∀ x ∈ ncl, va_Nc x.1 x.2 U) ∧ ∀ w ∈ lkw, w.before #[] U = true
theorem lkw_t : ∀ w ∈ lkw, w.onTables = true := by decide +kernel
theorem lkw_g : ∀ w ∈ lkw, goodWord w = true := by decide +kernel
theorem KN.warm {s U : State} (hW : s.WarmedH U.vm) (h : KN s) : KN U := ⟨fun x hx => (h.1 x hx).moved hW.alike, fun w hw => word_at hW (good_of_word (lkw_g w hw)) (h.2 w hw)⟩
theorem KN.calling {U : State} {g : JFrame} {mk : MethodId} {a : Array Value} (h : KN U) : KN (U.calling g mk a) := ⟨fun x hx => va_Nc.moved (u := U) (U := U.calling g mk a) (Vm.Alike.refl U.vm) (h.1 x hx), fun w hw => va_tabs (u := U) (U := U.calling g mk a) (lkw_t w hw) rfl (h.2 w hw)⟩
/-- a wrapper's start -/
def lB (D : va_G) (k : Nat → ClassId) (ws : va_W) (sz : Nat) (U : State) : Prop := tB D k ws sz U ∧ KN U
theorem lB_blind {D : va_G} {k : Nat → ClassId} {ws : va_W} {sz : Nat} {av : List Value} : FrameBlind (va_Pc av (lB D k ws sz)) := fun a U g mk q => ⟨q.1, (tB_blind (av := av) a U g mk ⟨q.1, q.2.1⟩).2, q.2.2.calling⟩
/-- a wrapper's end: the code, the new state, the answer -/
def wPost (cd : Nat) (S S1 Z : Nat → Nat → Nat) (RZ : (Nat → Nat → Nat) → Prop) (v : Int64) (r : Int32) (u : (Nat → Nat → Nat) × (Nat → Nat → Nat) × (Nat → Int64)) : Prop := r = nI cd ∧ ((cd = 0 ∧ u.1 = S1 ∧ RZ u.2.1 ∧ u.2.2 0 = v) ∨ (cd ≠ 0 ∧ u.1 = S ∧ u.2.1 = Z))
theorem wP0 {cd : Nat} {S S1 Z : Nat → Nat → Nat} {RZ : (Nat → Nat → Nat) → Prop} {v : Int64} {u : (Nat → Nat → Nat) × (Nat → Nat → Nat) × (Nat → Int64)} (h : cd = 0) (h1 : u.1 = S1) (h2 : RZ u.2.1) (h3 : u.2.2 0 = v) : wPost cd S S1 Z RZ v (nI 0) u := ⟨by rw [h], Or.inl ⟨h, h1, h2, h3⟩⟩
theorem wPn {cd n : Nat} {S S1 Z : Nat → Nat → Nat} {RZ : (Nat → Nat → Nat) → Prop} {v : Int64} {f : Nat → Int64} (h : cd = n) (hn : n ≠ 0) : wPost cd S S1 Z RZ v (nI n) (S, Z, f) := ⟨by rw [h], Or.inr ⟨by rw [h]; exact hn, rfl, rfl⟩⟩
section LR
variable {p : Program} {l : Launch} {e : Env} {R : Room} {s : State} {m : MethodId} {args : Array Value} {below : List Frame} {meth : Method} {c : Code} {H : Heap} {locs : List Loc} {cells slots : Nat} {Q : State → Prop}
variable {cc : ByteArray} {pc : Nat} {ls : Array Slot} {rest As stk : List Value} {D : va_G} {k : Nat → ClassId} {A : Nat → Prop} {b : Nat} {Wd Wr : va_W}
variable {y : MethodName} {bytes : ByteArray} {maxL nL n index mc ms : Nat} {ret : Option FieldType} {ws : List Cond} {rm : Room} {Ts : List Cond} {own C host : String}
/-- the system's method that returns or throws, called with the law's cells beside -/
theorem lx_Vi {σ σx : Type} {F : σ → va_W} {G : σx → va_W} {post : Int32 → σ → Prop} {px : σx → Prop} {xe : String → σx → Prop} (S : CallFix p m c cc nL s args Ts own)
    (hM : vx_Met l y ws rm (va_Pc (.ref b :: As) (tB D k Wd H.size)) (va_Qi post (fun u t => wE D (va_A Wd H.size) (F u) t) (va_A Wd H.size)) (vx_X px (fun E u t => xe E u ∧ wE D (va_A Wd H.size) (G u) t) (va_A Wd H.size)) mc ms (va_A Wd H.size)) (cw : CallW R s args own C index y bytes maxL ret ws rm mc ms n)
    (hX : KX D k s) (hT : KT s) (hZ : TZ A s s.heap) (hP : va_P D vwCl (Wr ++ Wd) H) (hD : va_D A (Wr ++ Wd)) (hS : va_S A s.heap H locs) (hA : ∀ q, s.heap.size ≤ q → A q) {q0 ci N : Nat} {T : u_T} {fs : List Value} (he : Wd[q0]? = some (b, .inr (ci, fs))) (hc : vwCl[ci]? = some (C, T, N)) (hn : As.length = n) (hsize : ls.size = nL) (hstk : stk = As.reverse ++ .ref b :: rest) (h8 : (rest.map fun v => v.category).sum ≤ 8)
    (hdg : decode cc pc = .ok (.invokevirtual index, 3)) (hf : cells + mc ≤ R.cells ∧ slots + ms ≤ R.slots)
    (kx : ∀ (E : String) (u : σx) (ce : Cell) (q9 : Addr) (H1 : Heap) (locs1 : List Loc), px u → xe E u → va_P D vwCl (Wr ++ G u) H1 → va_D A (Wr ++ G u) → va_S A s.heap H1 locs1 → H1[q9]? = some ce → ce.vm = .none → s.vm.findClass E = some ce.cls → vx_W p l e R s m args below meth c H1 locs1 (cells + mc) (slots + ms) Q (F0 m pc ls rest) q9)
    (kk : ∀ (r : Int32) (u : σ) (H1 : Heap) (locs1 : List Loc), post r u → va_P D vwCl (Wr ++ F u) H1 → va_D A (Wr ++ F u) → va_S A s.heap H1 locs1 → W p l e R s m args below meth c H1 locs1 (cells + mc) (slots + ms) Q (F0 m (pc + 3) ls (.int r :: rest))) : W p l e R s m args below meth c H locs cells slots Q (F0 m pc ls stk) := by
  subst hstk
  have hPc := (ap_P hP).2
  have hDc := (ap_D hD).2.1
  have hFc := wA_free hDc hS hA
  refine vx_calli (vx_runV (As := As) (rest := rest) S hM cw ⟨tB_blind, va_recv hX.1 hPc hc he, fun U hU hW => ⟨rfl, ⟨by rw [hU], by rw [hU]; exact hPc, hX.warm hW, hDc.weaken (fun _ _ _ _ => trivial)⟩, hT.warm hW, hZ.at hS hFc hU hW⟩⟩ rfl hn hsize rfl (lv_room h8) hdg hf) hS (fun q _ h => hFc q h) hFc (fun q _ h => hFc q h) (fun E ce q9 u t H1 locs1 ht hvm hpx hB hz hk hS1 hce hcv hcl => ?_) (fun r u t H1 locs1 ht hvm hw hB hz1 hk1 hS1 => ?_)
  · obtain ⟨hxe, hP1, hD1⟩ := hB
    rw [ht] at hP1
    obtain ⟨hP2, hD2⟩ := ap_joinR hP hD hk hFc hP1 hD1
    exact kx E u ce q9 H1 locs1 hpx hxe hP2 hD2 hS1 hce hcv hcl
  · obtain ⟨hP1, hD1⟩ := hB
    rw [ht] at hP1
    obtain ⟨hP2, hD2⟩ := ap_joinR hP hD hk1 hFc hP1 hD1
    exact kk r u H1 locs1 hw hP2 hD2 hS1
theorem lx_Vv {σ σx : Type} {F : σ → va_W} {G : σx → va_W} {post : σ → Prop} {px : σx → Prop} {xe : String → σx → Prop} (S : CallFix p m c cc nL s args Ts own)
    (hM : vx_Met l y ws rm (va_Pc (.ref b :: As) (tB D k Wd H.size)) (va_Qv post (fun u t => wE D (va_A Wd H.size) (F u) t) (va_A Wd H.size)) (vx_X px (fun E u t => xe E u ∧ wE D (va_A Wd H.size) (G u) t) (va_A Wd H.size)) mc ms (va_A Wd H.size)) (cw : CallW R s args own C index y bytes maxL ret ws rm mc ms n)
    (hX : KX D k s) (hT : KT s) (hZ : TZ A s s.heap) (hP : va_P D vwCl (Wr ++ Wd) H) (hD : va_D A (Wr ++ Wd)) (hS : va_S A s.heap H locs) (hA : ∀ q, s.heap.size ≤ q → A q) {q0 ci N : Nat} {T : u_T} {fs : List Value} (he : Wd[q0]? = some (b, .inr (ci, fs))) (hc : vwCl[ci]? = some (C, T, N)) (hn : As.length = n) (hsize : ls.size = nL) (hstk : stk = As.reverse ++ .ref b :: rest) (h8 : (rest.map fun v => v.category).sum ≤ 8)
    (hdg : decode cc pc = .ok (.invokevirtual index, 3)) (hf : cells + mc ≤ R.cells ∧ slots + ms ≤ R.slots)
    (kx : ∀ (E : String) (u : σx) (ce : Cell) (q9 : Addr) (H1 : Heap) (locs1 : List Loc), px u → xe E u → va_P D vwCl (Wr ++ G u) H1 → va_D A (Wr ++ G u) → va_S A s.heap H1 locs1 → H1[q9]? = some ce → ce.vm = .none → s.vm.findClass E = some ce.cls → vx_W p l e R s m args below meth c H1 locs1 (cells + mc) (slots + ms) Q (F0 m pc ls rest) q9)
    (kk : ∀ (u : σ) (H1 : Heap) (locs1 : List Loc), post u → va_P D vwCl (Wr ++ F u) H1 → va_D A (Wr ++ F u) → va_S A s.heap H1 locs1 → W p l e R s m args below meth c H1 locs1 (cells + mc) (slots + ms) Q (F0 m (pc + 3) ls rest)) : W p l e R s m args below meth c H locs cells slots Q (F0 m pc ls stk) := by
  subst hstk
  have hPc := (ap_P hP).2
  have hDc := (ap_D hD).2.1
  have hFc := wA_free hDc hS hA
  refine vx_callv (vx_runV (As := As) (rest := rest) S hM cw ⟨tB_blind, va_recv hX.1 hPc hc he, fun U hU hW => ⟨rfl, ⟨by rw [hU], by rw [hU]; exact hPc, hX.warm hW, hDc.weaken (fun _ _ _ _ => trivial)⟩, hT.warm hW, hZ.at hS hFc hU hW⟩⟩ rfl hn hsize rfl (lv_room h8) hdg hf) hS (fun q _ h => hFc q h) hFc (fun q _ h => hFc q h) (fun E ce q9 u t H1 locs1 ht hvm hpx hB hz hk hS1 hce hcv hcl => ?_) (fun u t H1 locs1 ht hvm hw hB hz1 hk1 hS1 => ?_)
  · obtain ⟨hxe, hP1, hD1⟩ := hB
    rw [ht] at hP1
    obtain ⟨hP2, hD2⟩ := ap_joinR hP hD hk hFc hP1 hD1
    exact kx E u ce q9 H1 locs1 hpx hxe hP2 hD2 hS1 hce hcv hcl
  · obtain ⟨hP1, hD1⟩ := hB
    rw [ht] at hP1
    obtain ⟨hP2, hD2⟩ := ap_joinR hP hD hk1 hFc hP1 hD1
    exact kk u H1 locs1 hw hP2 hD2 hS1
/-- the law calls a wrapper: the second part is the wrapper's -/
theorem ls_Si {σ : Type} {F : σ → va_W} {post : Int32 → σ → Prop} {hh : List (Nat × Nat × Nat × Nat)} (S : CallFix p m c cc nL s args Ts own)
    (hM : Met l y ws rm (va_Pc As (lB D k Wd H.size)) (va_Qi post (fun u t => wE D (va_A Wd H.size) (F u) t) (va_A Wd H.size)) mc ms (va_A Wd H.size)) (cw : vx_CSW R s args own index y bytes maxL ret hh ws rm mc ms n)
    (hX : KX D k s) (hT : KT s) (hN : KN s) (hZ : TZ A s s.heap) (hP : va_P D vwCl (Wr ++ Wd) H) (hD : va_D A (Wr ++ Wd)) (hS : va_S A s.heap H locs) (hA : ∀ q, s.heap.size ≤ q → A q) (hn : As.length = n) (hsize : ls.size = nL) (hstk : stk = As.reverse ++ rest) (h8 : (rest.map fun v => v.category).sum ≤ 8)
    (hdg : decode cc pc = .ok (.invokestatic index, 3)) (hf : cells + mc ≤ R.cells ∧ slots + ms ≤ R.slots)
    (kk : ∀ (r : Int32) (u : σ) (H1 : Heap) (locs1 : List Loc), post r u → va_P D vwCl (Wr ++ F u) H1 → va_D A (Wr ++ F u) → va_S A s.heap H1 locs1 → W p l e R s m args below meth c H1 locs1 (cells + mc) (slots + ms) Q (F0 m (pc + 3) ls (.int r :: rest))) : W p l e R s m args below meth c H locs cells slots Q (F0 m pc ls stk) := by
  subst hstk
  have hPc := (ap_P hP).2
  have hDc := (ap_D hD).2.1
  have hFc := wA_free hDc hS hA
  refine va_calli (vx_runSW (As := As) (rest := rest) S hM cw ⟨lB_blind, fun U hU hW => ⟨rfl, ⟨⟨by rw [hU], by rw [hU]; exact hPc, hX.warm hW, hDc.weaken (fun _ _ _ _ => trivial)⟩, hT.warm hW, hZ.at hS hFc hU hW⟩, hN.warm hW⟩⟩ rfl hn hsize rfl (lv_room h8) hdg hf) hS (fun q _ h => hFc q h) hFc (fun r u t H1 locs1 ht hvm hw hB hz1 hk1 hS1 => ?_)
  obtain ⟨hP1, hD1⟩ := hB
  rw [ht] at hP1
  obtain ⟨hP2, hD2⟩ := ap_joinR hP hD hk1 hFc hP1 hD1
  exact kk r u H1 locs1 hw hP2 hD2 hS1
/-- the law calls the reference: the first part is the reference's -/
theorem lm_Vi {σ : Type} {F : σ → va_W} {post : Int32 → σ → Prop} (S : CallFix p m c cc nL s args Ts own) (hM : Met l y ws rm (va_Pc (.ref b :: As) (wB D k Wd H.size)) (va_Qi post (fun u t => wE D (va_A Wd H.size) (F u) t) (va_A Wd H.size)) mc ms (va_A Wd H.size)) (cw : CallW R s args own C index y bytes maxL ret ws rm mc ms n)
    (hX : KX D k s) (hP : va_P D vwCl (Wd ++ Wr) H) (hD : va_D A (Wd ++ Wr)) (hS : va_S A s.heap H locs) (hA : ∀ q, s.heap.size ≤ q → A q) {q0 ci N : Nat} {T : u_T} {fs : List Value} (he : Wd[q0]? = some (b, .inr (ci, fs))) (hc : vwCl[ci]? = some (C, T, N)) (hn : As.length = n) (hsize : ls.size = nL) (hstk : stk = As.reverse ++ .ref b :: rest) (h8 : (rest.map fun v => v.category).sum ≤ 8)
    (hdg : decode cc pc = .ok (.invokevirtual index, 3)) (hf : cells + mc ≤ R.cells ∧ slots + ms ≤ R.slots) (kk : ∀ (r : Int32) (u : σ) (H1 : Heap) (locs1 : List Loc), post r u → va_P D vwCl (F u ++ Wr) H1 → va_D A (F u ++ Wr) → va_S A s.heap H1 locs1 → W p l e R s m args below meth c H1 locs1 (cells + mc) (slots + ms) Q (F0 m (pc + 3) ls (.int r :: rest))) : W p l e R s m args below meth c H locs cells slots Q (F0 m pc ls stk) := by
  subst hstk
  have hPc := (ap_P hP).1
  have hDc := (ap_D hD).1
  have hFc := wA_free hDc hS hA
  refine va_calli (va_runV (As := As) (rest := rest) S hM cw ⟨wB_blind, va_recv hX.1 hPc hc he, fun U hU hW => ⟨rfl, by rw [hU], by rw [hU]; exact hPc, hX.warm hW, hDc.weaken (fun _ _ _ _ => trivial)⟩⟩ rfl hn hsize rfl (lv_room h8) hdg hf) hS (fun q _ h => hFc q h) hFc (fun r u t H1 locs1 ht hvm hw hB hz1 hk1 hS1 => ?_)
  obtain ⟨hP1, hD1⟩ := hB
  rw [ht] at hP1
  obtain ⟨hP2, hD2⟩ := ap_joinL hP hD hk1 hFc hP1 hD1
  exact kk r u H1 locs1 hw hP2 hD2 hS1
theorem lm_Vv {σ : Type} {F : σ → va_W} {post : σ → Prop} (S : CallFix p m c cc nL s args Ts own) (hM : Met l y ws rm (va_Pc (.ref b :: As) (wB D k Wd H.size)) (va_Qv post (fun u t => wE D (va_A Wd H.size) (F u) t) (va_A Wd H.size)) mc ms (va_A Wd H.size)) (cw : CallW R s args own C index y bytes maxL ret ws rm mc ms n)
    (hX : KX D k s) (hP : va_P D vwCl (Wd ++ Wr) H) (hD : va_D A (Wd ++ Wr)) (hS : va_S A s.heap H locs) (hA : ∀ q, s.heap.size ≤ q → A q) {q0 ci N : Nat} {T : u_T} {fs : List Value} (he : Wd[q0]? = some (b, .inr (ci, fs))) (hc : vwCl[ci]? = some (C, T, N)) (hn : As.length = n) (hsize : ls.size = nL) (hstk : stk = As.reverse ++ .ref b :: rest) (h8 : (rest.map fun v => v.category).sum ≤ 8)
    (hdg : decode cc pc = .ok (.invokevirtual index, 3)) (hf : cells + mc ≤ R.cells ∧ slots + ms ≤ R.slots) (kk : ∀ (u : σ) (H1 : Heap) (locs1 : List Loc), post u → va_P D vwCl (F u ++ Wr) H1 → va_D A (F u ++ Wr) → va_S A s.heap H1 locs1 → W p l e R s m args below meth c H1 locs1 (cells + mc) (slots + ms) Q (F0 m (pc + 3) ls rest)) : W p l e R s m args below meth c H locs cells slots Q (F0 m pc ls stk) := by
  subst hstk
  have hPc := (ap_P hP).1
  have hDc := (ap_D hD).1
  have hFc := wA_free hDc hS hA
  refine va_callv (va_runV (As := As) (rest := rest) S hM cw ⟨wB_blind, va_recv hX.1 hPc hc he, fun U hU hW => ⟨rfl, by rw [hU], by rw [hU]; exact hPc, hX.warm hW, hDc.weaken (fun _ _ _ _ => trivial)⟩⟩ rfl hn hsize rfl (lv_room h8) hdg hf) hS (fun q _ h => hFc q h) hFc (fun u t H1 locs1 ht hvm hw hB hz1 hk1 hS1 => ?_)
  obtain ⟨hP1, hD1⟩ := hB
  rw [ht] at hP1
  obtain ⟨hP2, hD2⟩ := ap_joinL hP hD hk1 hFc hP1 hD1
  exact kk u H1 locs1 hw hP2 hD2 hS1
end LR
theorem al_1 {α : Type} {P : α → Prop} {a : α} (h : P a) : ∀ z ∈ [a], P z := fun z hz => by rw [List.mem_singleton.mp hz]; exact h
theorem al_2 {α : Type} {P : α → Prop} {a b : α} (h : P a) (h2 : P b) : ∀ z ∈ [a, b], P z := fun z hz => by
  rcases List.mem_cons.mp hz with e | hz
  · rw [e]; exact h
  · rw [List.mem_singleton.mp hz]; exact h2
/-- a truth as a long -/
def bL (b : Bool) : Int64 := if b = true then 1 else 0
theorem bL_0 {b : Bool} (h : nI (bN b) = 0) : bL b = 0 := by
  cases b
  · rfl
  · exact absurd h (by decide)
theorem bL_1 {b : Bool} (h : ¬ nI (bN b) = 0) : bL b = 1 := by
  cases b
  · exact absurd rfl h
  · rfl
theorem updL0 {f : Nat → Int64} {x : Int64} : vp_updL f 0 x 0 = x := if_pos rfl
