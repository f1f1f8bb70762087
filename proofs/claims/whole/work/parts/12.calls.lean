/-! Calls of readers (the heap as it was, the answer v) and of writers whose cells are the caller's. -/
section NC
variable {p : Program} {l : Launch} {e : Env} {R : Room} {s : State} {m : MethodId} {args : Array Value} {below : List Frame} {meth : Method} {c : Code} {H : Heap} {locs : List Loc} {cells slots : Nat} {Q : State → Prop}
variable {cc : ByteArray} {pc : Nat} {ls : Array Slot} {rest As stk : List Value} {D : va_G} {k : Nat → ClassId} {A : Nat → Prop} {b : Nat} {H0 : Heap} {Wd : va_W}
variable {y : MethodName} {bytes : ByteArray} {maxL nL n index : Nat} {ret : Option FieldType} {ws : List Cond} {rm : Room} {Ts : List Cond} {own C host : String} {v : Int32}
theorem rd_V (S : CallFix p m c cc nL s args Ts own) (hM : Met l y ws rm (va_Pc (.ref b :: As) (rB D k Wd)) (vp_Si (fun r => r = v)) 0 0 (fun _ => False)) (cw : CallW R s args own C index y bytes maxL ret ws rm 0 0 n)
    (hX : KX D k s) (hP : va_P D vwCl Wd H) {q0 ci N : Nat} {T : u_T} {fs : List Value} (he : Wd[q0]? = some (b, .inr (ci, fs))) (hc : vwCl[ci]? = some (C, T, N)) (hn : As.length = n) (hsize : ls.size = nL) (hstk : stk = As.reverse ++ .ref b :: rest) (h8 : (rest.map fun v => v.category).sum ≤ 8)
    (hdg : decode cc pc = .ok (.invokevirtual index, 3)) (hf : cells + 0 ≤ R.cells ∧ slots + 0 ≤ R.slots) (kk : W p l e R s m args below meth c H locs cells slots Q (F0 m (pc + 3) ls (.int v :: rest))) : W p l e R s m args below meth c H locs cells slots Q (F0 m pc ls stk) := by
  subst hstk
  refine vp_callSi (va_Run.run (va_runV (As := As) (rest := rest) S hM cw ⟨rB_blind, va_recv hX.1 hP hc he, fun U hU hW => ⟨rfl, by rw [hU]; exact hP, hX.warm hW⟩⟩ rfl hn hsize rfl (lv_room h8) hdg hf)) (fun r hr => ?_)
  subst hr
  exact kk
theorem rd_N (S : CallFix p m c cc nL s args Ts own) (hM : Met l y ws rm (va_Pc (.ref b :: As) (rB D k Wd)) (vp_Si (fun r => r = v)) 0 0 (fun _ => False)) (cw : va_CN R s args own index y host bytes maxL ret ws rm 0 0 n ∧ (Cond.instanceMethod y).before args s = true ∧ (Cond.selects C y y).before args s = true)
    (hX : KX D k s) (hP : va_P D vwCl Wd H) {q0 ci N : Nat} {T : u_T} {fs : List Value} (he : Wd[q0]? = some (b, .inr (ci, fs))) (hc : vwCl[ci]? = some (C, T, N)) (hn : As.length = n) (hsize : ls.size = nL) (hstk : stk = As.reverse ++ .ref b :: rest) (h8 : (rest.map fun v => v.category).sum ≤ 8)
    (hdg : decode cc pc = .ok (.invokevirtual index, 3)) (hf : cells + 0 ≤ R.cells ∧ slots + 0 ≤ R.slots) (kk : W p l e R s m args below meth c H locs cells slots Q (F0 m (pc + 3) ls (.int v :: rest))) : W p l e R s m args below meth c H locs cells slots Q (F0 m pc ls stk) := by
  subst hstk
  refine vp_callSi (va_Run.run (va_runVN (As := As) (rest := rest) S hM cw ⟨rB_blind, va_recv hX.1 hP hc he, fun U hU hW => ⟨rfl, by rw [hU]; exact hP, hX.warm hW⟩⟩ rfl hn hsize rfl (lv_room h8) hdg hf)) (fun r hr => ?_)
  subst hr
  exact kk
/-- a static function of numbers -/
theorem rd_S (S : CallFix p m c cc nL s args Ts own) (hM : Met l y ws rm (va_Pc As (fun _ => True)) (vp_Si (fun r => r = v)) 0 0 (fun _ => False)) (cw : CallB R s args own index y bytes maxL ret ws rm 0 0 n ∧ (Cond.static y).before args s = true)
    (hn : As.length = n) (hsize : ls.size = nL) (hstk : stk = As.reverse ++ rest) (h8 : (rest.map fun v => v.category).sum ≤ 8)
    (hdg : decode cc pc = .ok (.invokestatic index, 3)) (hf : cells + 0 ≤ R.cells ∧ slots + 0 ≤ R.slots) (kk : W p l e R s m args below meth c H locs cells slots Q (F0 m (pc + 3) ls (.int v :: rest))) : W p l e R s m args below meth c H locs cells slots Q (F0 m pc ls stk) := by
  subst hstk
  refine vp_callSi (va_Run.run (va_runS (As := As) (rest := rest) S hM cw ⟨fun _ _ _ _ q => ⟨q.1, trivial⟩, fun U hU hW => ⟨rfl, trivial⟩⟩ rfl hn hsize rfl (lv_room h8) hdg hf)) (fun r hr => ?_)
  subst hr
  exact kk
variable {mc ms : Nat}
theorem wA_free {A : Nat → Prop} {Wd : va_W} (hD : va_D A Wd) (hS : va_S A H0 H locs) (hA : ∀ q, H0.size ≤ q → A q) : ∀ q, va_A Wd H.size q → A q := by
  intro q h
  rcases h with ⟨i, e, h⟩ | h
  · exact hD.2 i _ h
  · exact hA q (Nat.le_trans hS.1 h)
theorem wr_Vi {σ : Type} {F : σ → va_W} {post : Int32 → σ → Prop} (S : CallFix p m c cc nL s args Ts own) (hM : Met l y ws rm (va_Pc (.ref b :: As) (wB D k Wd H.size)) (va_Qi post (fun u t => wE D (va_A Wd H.size) (F u) t) (va_A Wd H.size)) mc ms (va_A Wd H.size)) (cw : CallW R s args own C index y bytes maxL ret ws rm mc ms n)
    (hX : KX D k s) (hP : va_P D vwCl Wd H) (hD : va_D A Wd) (hS : va_S A H0 H locs) (hA : ∀ q, H0.size ≤ q → A q) {q0 ci N : Nat} {T : u_T} {fs : List Value} (he : Wd[q0]? = some (b, .inr (ci, fs))) (hc : vwCl[ci]? = some (C, T, N)) (hn : As.length = n) (hsize : ls.size = nL) (hstk : stk = As.reverse ++ .ref b :: rest) (h8 : (rest.map fun v => v.category).sum ≤ 8)
    (hdg : decode cc pc = .ok (.invokevirtual index, 3)) (hf : cells + mc ≤ R.cells ∧ slots + ms ≤ R.slots) (kk : ∀ (r : Int32) (u : σ) (H1 : Heap) (locs1 : List Loc), post r u → va_P D vwCl (F u) H1 → va_D A (F u) → va_S A H0 H1 locs1 → W p l e R s m args below meth c H1 locs1 (cells + mc) (slots + ms) Q (F0 m (pc + 3) ls (.int r :: rest))) : W p l e R s m args below meth c H locs cells slots Q (F0 m pc ls stk) := by
  subst hstk
  have hFc := wA_free hD hS hA
  refine va_calli (va_runV (As := As) (rest := rest) S hM cw ⟨wB_blind, va_recv hX.1 hP hc he, fun U hU hW => ⟨rfl, by rw [hU], by rw [hU]; exact hP, hX.warm hW, hD.weaken (fun _ _ _ _ => trivial)⟩⟩ rfl hn hsize rfl (lv_room h8) hdg hf) hS (fun q _ h => hFc q h) hFc (fun r u t H1 locs1 ht hvm hw hB hz1 hk1 hS1 => ?_)
  obtain ⟨hP1, hD1⟩ := hB
  rw [ht] at hP1
  exact kk r u H1 locs1 hw hP1 (hD1.weaken (fun _ _ _ h => hFc _ h)) hS1
theorem wr_Vv {σ : Type} {F : σ → va_W} {post : σ → Prop} (S : CallFix p m c cc nL s args Ts own) (hM : Met l y ws rm (va_Pc (.ref b :: As) (wB D k Wd H.size)) (va_Qv post (fun u t => wE D (va_A Wd H.size) (F u) t) (va_A Wd H.size)) mc ms (va_A Wd H.size)) (cw : CallW R s args own C index y bytes maxL ret ws rm mc ms n)
    (hX : KX D k s) (hP : va_P D vwCl Wd H) (hD : va_D A Wd) (hS : va_S A H0 H locs) (hA : ∀ q, H0.size ≤ q → A q) {q0 ci N : Nat} {T : u_T} {fs : List Value} (he : Wd[q0]? = some (b, .inr (ci, fs))) (hc : vwCl[ci]? = some (C, T, N)) (hn : As.length = n) (hsize : ls.size = nL) (hstk : stk = As.reverse ++ .ref b :: rest) (h8 : (rest.map fun v => v.category).sum ≤ 8)
    (hdg : decode cc pc = .ok (.invokevirtual index, 3)) (hf : cells + mc ≤ R.cells ∧ slots + ms ≤ R.slots) (kk : ∀ (u : σ) (H1 : Heap) (locs1 : List Loc), post u → va_P D vwCl (F u) H1 → va_D A (F u) → va_S A H0 H1 locs1 → W p l e R s m args below meth c H1 locs1 (cells + mc) (slots + ms) Q (F0 m (pc + 3) ls rest)) : W p l e R s m args below meth c H locs cells slots Q (F0 m pc ls stk) := by
  subst hstk
  have hFc := wA_free hD hS hA
  refine va_callv (va_runV (As := As) (rest := rest) S hM cw ⟨wB_blind, va_recv hX.1 hP hc he, fun U hU hW => ⟨rfl, by rw [hU], by rw [hU]; exact hP, hX.warm hW, hD.weaken (fun _ _ _ _ => trivial)⟩⟩ rfl hn hsize rfl (lv_room h8) hdg hf) hS (fun q _ h => hFc q h) hFc (fun u t H1 locs1 ht hvm hw hB hz1 hk1 hS1 => ?_)
  obtain ⟨hP1, hD1⟩ := hB
  rw [ht] at hP1
  exact kk u H1 locs1 hw hP1 (hD1.weaken (fun _ _ _ h => hFc _ h)) hS1
theorem wr_Ni {σ : Type} {F : σ → va_W} {post : Int32 → σ → Prop} (S : CallFix p m c cc nL s args Ts own) (hM : Met l y ws rm (va_Pc (.ref b :: As) (wB D k Wd H.size)) (va_Qi post (fun u t => wE D (va_A Wd H.size) (F u) t) (va_A Wd H.size)) mc ms (va_A Wd H.size)) (cw : va_CN R s args own index y host bytes maxL ret ws rm mc ms n ∧ (Cond.instanceMethod y).before args s = true ∧ (Cond.selects C y y).before args s = true)
    (hX : KX D k s) (hP : va_P D vwCl Wd H) (hD : va_D A Wd) (hS : va_S A H0 H locs) (hA : ∀ q, H0.size ≤ q → A q) {q0 ci N : Nat} {T : u_T} {fs : List Value} (he : Wd[q0]? = some (b, .inr (ci, fs))) (hc : vwCl[ci]? = some (C, T, N)) (hn : As.length = n) (hsize : ls.size = nL) (hstk : stk = As.reverse ++ .ref b :: rest) (h8 : (rest.map fun v => v.category).sum ≤ 8)
    (hdg : decode cc pc = .ok (.invokevirtual index, 3)) (hf : cells + mc ≤ R.cells ∧ slots + ms ≤ R.slots) (kk : ∀ (r : Int32) (u : σ) (H1 : Heap) (locs1 : List Loc), post r u → va_P D vwCl (F u) H1 → va_D A (F u) → va_S A H0 H1 locs1 → W p l e R s m args below meth c H1 locs1 (cells + mc) (slots + ms) Q (F0 m (pc + 3) ls (.int r :: rest))) : W p l e R s m args below meth c H locs cells slots Q (F0 m pc ls stk) := by
  subst hstk
  have hFc := wA_free hD hS hA
  refine va_calli (va_runVN (As := As) (rest := rest) S hM cw ⟨wB_blind, va_recv hX.1 hP hc he, fun U hU hW => ⟨rfl, by rw [hU], by rw [hU]; exact hP, hX.warm hW, hD.weaken (fun _ _ _ _ => trivial)⟩⟩ rfl hn hsize rfl (lv_room h8) hdg hf) hS (fun q _ h => hFc q h) hFc (fun r u t H1 locs1 ht hvm hw hB hz1 hk1 hS1 => ?_)
  obtain ⟨hP1, hD1⟩ := hB
  rw [ht] at hP1
  exact kk r u H1 locs1 hw hP1 (hD1.weaken (fun _ _ _ h => hFc _ h)) hS1
theorem wr_Nv {σ : Type} {F : σ → va_W} {post : σ → Prop} (S : CallFix p m c cc nL s args Ts own) (hM : Met l y ws rm (va_Pc (.ref b :: As) (wB D k Wd H.size)) (va_Qv post (fun u t => wE D (va_A Wd H.size) (F u) t) (va_A Wd H.size)) mc ms (va_A Wd H.size)) (cw : va_CN R s args own index y host bytes maxL ret ws rm mc ms n ∧ (Cond.instanceMethod y).before args s = true ∧ (Cond.selects C y y).before args s = true)
    (hX : KX D k s) (hP : va_P D vwCl Wd H) (hD : va_D A Wd) (hS : va_S A H0 H locs) (hA : ∀ q, H0.size ≤ q → A q) {q0 ci N : Nat} {T : u_T} {fs : List Value} (he : Wd[q0]? = some (b, .inr (ci, fs))) (hc : vwCl[ci]? = some (C, T, N)) (hn : As.length = n) (hsize : ls.size = nL) (hstk : stk = As.reverse ++ .ref b :: rest) (h8 : (rest.map fun v => v.category).sum ≤ 8)
    (hdg : decode cc pc = .ok (.invokevirtual index, 3)) (hf : cells + mc ≤ R.cells ∧ slots + ms ≤ R.slots) (kk : ∀ (u : σ) (H1 : Heap) (locs1 : List Loc), post u → va_P D vwCl (F u) H1 → va_D A (F u) → va_S A H0 H1 locs1 → W p l e R s m args below meth c H1 locs1 (cells + mc) (slots + ms) Q (F0 m (pc + 3) ls rest)) : W p l e R s m args below meth c H locs cells slots Q (F0 m pc ls stk) := by
  subst hstk
  have hFc := wA_free hD hS hA
  refine va_callv (va_runVN (As := As) (rest := rest) S hM cw ⟨wB_blind, va_recv hX.1 hP hc he, fun U hU hW => ⟨rfl, by rw [hU], by rw [hU]; exact hP, hX.warm hW, hD.weaken (fun _ _ _ _ => trivial)⟩⟩ rfl hn hsize rfl (lv_room h8) hdg hf) hS (fun q _ h => hFc q h) hFc (fun u t H1 locs1 ht hvm hw hB hz1 hk1 hS1 => ?_)
  obtain ⟨hP1, hD1⟩ := hB
  rw [ht] at hP1
  exact kk u H1 locs1 hw hP1 (hD1.weaken (fun _ _ _ h => hFc _ h)) hS1
end NC
