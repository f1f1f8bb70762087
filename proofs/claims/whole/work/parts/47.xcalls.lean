/-! Calls of methods that return or throw; what is thrown goes on to the caller. -/
section XC
variable {p : Program} {l : Launch} {e : Env} {R : Room} {s : State} {m : MethodId} {args : Array Value} {below : List Frame} {meth : Method} {c : Code} {H : Heap} {locs : List Loc} {cells slots : Nat}
variable {cc : ByteArray} {pc : Nat} {ls : Array Slot} {rest As stk : List Value} {D : va_G} {k : Nat → ClassId} {A : Nat → Prop} {b : Nat} {Wd : va_W}
variable {y : MethodName} {bytes : ByteArray} {maxL nL n index mc ms MC MS : Nat} {ret : Option FieldType} {ws : List Cond} {rm : Room} {Ts : List Cond} {own C host : String}
variable {Qc : Array Value → State → Outcome → State → Prop} {XC : String → State → State → Prop} {free : Addr → Prop}
theorem TZ.at {U : State} (hZ : TZ A s s.heap) (hS : va_S A s.heap H locs) (hF : ∀ q, va_A Wd H.size q → A q) (hU : U.heap = H) (hW : s.WarmedH U.vm) : TZ (va_A Wd H.size) U U.heap := by
  rw [hU]
  exact TZ.moved hW.alike ((hZ.kept hS.2.1).narrow hF)
theorem xr_Vv {σ σx : Type} {F : σ → va_W} {G : σx → va_W} {post : σ → Prop} {px : σx → Prop} {xe : String → σx → Prop} (S : CallFix p m c cc nL s args Ts own)
    (hM : vx_Met l y ws rm (va_Pc (.ref b :: As) (tB D k Wd H.size)) (va_Qv post (fun u t => wE D (va_A Wd H.size) (F u) t) (va_A Wd H.size)) (vx_X px (fun E u t => xe E u ∧ wE D (va_A Wd H.size) (G u) t) (va_A Wd H.size)) mc ms (va_A Wd H.size)) (cw : CallW R s args own C index y bytes maxL ret ws rm mc ms n)
    (hX : KX D k s) (hT : KT s) (hZ : TZ A s s.heap) (hP : va_P D vwCl Wd H) (hD : va_D A Wd) (hS : va_S A s.heap H locs) (hA : ∀ q, s.heap.size ≤ q → A q) {q0 ci N : Nat} {T : u_T} {fs : List Value} (he : Wd[q0]? = some (b, .inr (ci, fs))) (hc : vwCl[ci]? = some (C, T, N)) (hn : As.length = n) (hsize : ls.size = nL) (hstk : stk = As.reverse ++ .ref b :: rest) (h8 : (rest.map fun v => v.category).sum ≤ 8)
    (hdg : decode cc pc = .ok (.invokevirtual index, 3)) (hf : cells + mc ≤ R.cells ∧ slots + ms ≤ R.slots) (hno : ∀ x ∈ c.exceptionTable.toList, False) (hlocks : meth.locks = false) (hmc : cells + mc ≤ MC) (hms : slots + ms ≤ MS) (hfree : ∀ q, A q → free q)
    (kx : ∀ (E : String) (u : σx) (t : State), px u → xe E u → s.vm.Alike t.vm → va_P D vwCl (G u) t.heap → va_D A (G u) → va_F A s t → XC E s t)
    (kk : ∀ (u : σ) (H1 : Heap) (locs1 : List Loc), post u → va_P D vwCl (F u) H1 → va_D A (F u) → va_S A s.heap H1 locs1 → W p l e R s m args below meth c H1 locs1 (cells + mc) (slots + ms) (vx_MQ below Qc XC args s MC MS free) (F0 m (pc + 3) ls rest)) : W p l e R s m args below meth c H locs cells slots (vx_MQ below Qc XC args s MC MS free) (F0 m pc ls stk) := by
  subst hstk
  have hFc := wA_free hD hS hA
  refine vx_callv (vx_runV (As := As) (rest := rest) S hM cw ⟨tB_blind, va_recv hX.1 hP hc he, fun U hU hW => ⟨rfl, ⟨by rw [hU], by rw [hU]; exact hP, hX.warm hW, hD.weaken (fun _ _ _ _ => trivial)⟩, hT.warm hW, hZ.at hS hFc hU hW⟩⟩ rfl hn hsize rfl (lv_room h8) hdg hf) hS (fun q _ h => hFc q h) hFc (fun q _ h => hFc q h) (fun E ce q9 u t H1 locs1 ht hvm hpx hB hz hk hS1 hce hcv hcl => ?_) (fun u t H1 locs1 ht hvm hw hB hz1 hk1 hS1 => ?_)
  · obtain ⟨hxe, hP1, hD1⟩ := hB
    rw [ht] at hP1
    exact vx_out (fun x h => (hno x h).elim) hlocks hce hcv hcl (fun t' ht' hvm' => kx E u t' hpx hxe hvm' (by rw [ht']; exact hP1) (hD1.weaken (fun _ _ _ h => hFc _ h)) (hS1.F ht')) (fun z hz => hfree _ (hS1.2.2 z hz)) hmc hms
  · obtain ⟨hP1, hD1⟩ := hB
    rw [ht] at hP1
    exact kk u H1 locs1 hw hP1 (hD1.weaken (fun _ _ _ h => hFc _ h)) hS1
theorem xr_Vi {σ σx : Type} {F : σ → va_W} {G : σx → va_W} {post : Int32 → σ → Prop} {px : σx → Prop} {xe : String → σx → Prop} (S : CallFix p m c cc nL s args Ts own)
    (hM : vx_Met l y ws rm (va_Pc (.ref b :: As) (tB D k Wd H.size)) (va_Qi post (fun u t => wE D (va_A Wd H.size) (F u) t) (va_A Wd H.size)) (vx_X px (fun E u t => xe E u ∧ wE D (va_A Wd H.size) (G u) t) (va_A Wd H.size)) mc ms (va_A Wd H.size)) (cw : CallW R s args own C index y bytes maxL ret ws rm mc ms n)
    (hX : KX D k s) (hT : KT s) (hZ : TZ A s s.heap) (hP : va_P D vwCl Wd H) (hD : va_D A Wd) (hS : va_S A s.heap H locs) (hA : ∀ q, s.heap.size ≤ q → A q) {q0 ci N : Nat} {T : u_T} {fs : List Value} (he : Wd[q0]? = some (b, .inr (ci, fs))) (hc : vwCl[ci]? = some (C, T, N)) (hn : As.length = n) (hsize : ls.size = nL) (hstk : stk = As.reverse ++ .ref b :: rest) (h8 : (rest.map fun v => v.category).sum ≤ 8)
    (hdg : decode cc pc = .ok (.invokevirtual index, 3)) (hf : cells + mc ≤ R.cells ∧ slots + ms ≤ R.slots) (hno : ∀ x ∈ c.exceptionTable.toList, False) (hlocks : meth.locks = false) (hmc : cells + mc ≤ MC) (hms : slots + ms ≤ MS) (hfree : ∀ q, A q → free q)
    (kx : ∀ (E : String) (u : σx) (t : State), px u → xe E u → s.vm.Alike t.vm → va_P D vwCl (G u) t.heap → va_D A (G u) → va_F A s t → XC E s t)
    (kk : ∀ (r : Int32) (u : σ) (H1 : Heap) (locs1 : List Loc), post r u → va_P D vwCl (F u) H1 → va_D A (F u) → va_S A s.heap H1 locs1 → W p l e R s m args below meth c H1 locs1 (cells + mc) (slots + ms) (vx_MQ below Qc XC args s MC MS free) (F0 m (pc + 3) ls (.int r :: rest))) : W p l e R s m args below meth c H locs cells slots (vx_MQ below Qc XC args s MC MS free) (F0 m pc ls stk) := by
  subst hstk
  have hFc := wA_free hD hS hA
  refine vx_calli (vx_runV (As := As) (rest := rest) S hM cw ⟨tB_blind, va_recv hX.1 hP hc he, fun U hU hW => ⟨rfl, ⟨by rw [hU], by rw [hU]; exact hP, hX.warm hW, hD.weaken (fun _ _ _ _ => trivial)⟩, hT.warm hW, hZ.at hS hFc hU hW⟩⟩ rfl hn hsize rfl (lv_room h8) hdg hf) hS (fun q _ h => hFc q h) hFc (fun q _ h => hFc q h) (fun E ce q9 u t H1 locs1 ht hvm hpx hB hz hk hS1 hce hcv hcl => ?_) (fun r u t H1 locs1 ht hvm hw hB hz1 hk1 hS1 => ?_)
  · obtain ⟨hxe, hP1, hD1⟩ := hB
    rw [ht] at hP1
    exact vx_out (fun x h => (hno x h).elim) hlocks hce hcv hcl (fun t' ht' hvm' => kx E u t' hpx hxe hvm' (by rw [ht']; exact hP1) (hD1.weaken (fun _ _ _ h => hFc _ h)) (hS1.F ht')) (fun z hz => hfree _ (hS1.2.2 z hz)) hmc hms
  · obtain ⟨hP1, hD1⟩ := hB
    rw [ht] at hP1
    exact kk r u H1 locs1 hw hP1 (hD1.weaken (fun _ _ _ h => hFc _ h)) hS1
/-- a static method of numbers that returns or throws: the cells stay -/
theorem xr_Sv {ok : Prop} {xe : String → Prop} (S : CallFix p m c cc nL s args Ts own)
    (hM : vx_Met l y ws rm (va_Pc As (nB H.size)) (va_Qv (fun _ : Unit => ok) (fun _ _ => True) (fun q => H.size ≤ q)) (vx_X (fun _ : Unit => ¬ ok) (fun E _ _ => xe E) (fun q => H.size ≤ q)) mc ms (fun q => H.size ≤ q)) (cw : CallB R s args own index y bytes maxL ret ws rm mc ms n ∧ (Cond.static y).before args s = true)
    (hT : KT s) (hZ : TZ A s s.heap) (hP : va_P D vwCl Wd H) (hS : va_S A s.heap H locs) (hA : ∀ q, s.heap.size ≤ q → A q) (hn : As.length = n) (hsize : ls.size = nL) (hstk : stk = As.reverse ++ rest) (h8 : (rest.map fun v => v.category).sum ≤ 8)
    (hdg : decode cc pc = .ok (.invokestatic index, 3)) (hf : cells + mc ≤ R.cells ∧ slots + ms ≤ R.slots) (hno : ∀ x ∈ c.exceptionTable.toList, False) (hlocks : meth.locks = false) (hmc : cells + mc ≤ MC) (hms : slots + ms ≤ MS) (hfree : ∀ q, A q → free q)
    (kx : ∀ (E : String) (t : State), ¬ ok → xe E → s.vm.Alike t.vm → va_P D vwCl Wd t.heap → va_F A s t → XC E s t)
    (kk : ∀ (H1 : Heap) (locs1 : List Loc), ok → va_P D vwCl Wd H1 → va_S A s.heap H1 locs1 → W p l e R s m args below meth c H1 locs1 (cells + mc) (slots + ms) (vx_MQ below Qc XC args s MC MS free) (F0 m (pc + 3) ls rest)) : W p l e R s m args below meth c H locs cells slots (vx_MQ below Qc XC args s MC MS free) (F0 m pc ls stk) := by
  subst hstk
  have hFc : ∀ q : Nat, H.size ≤ q → A q := fun q h => hA q (Nat.le_trans hS.1 h)
  have hkp : ∀ {H1 : Heap}, (∀ q : Nat, q < H.size → ¬ H.size ≤ q → H1[q]? = H[q]?) → va_P D vwCl Wd H1 := fun hk => hP.kept (fun i q hi => hk q.1 ((hP i q hi).lt) (Nat.not_le.mpr ((hP i q hi).lt)))
  refine vx_callv (vx_runS (As := As) (rest := rest) S hM cw ⟨nB_blind, fun U hU hW => ⟨rfl, by rw [hU], hT.warm hW, by rw [hU]; exact TZ.moved hW.alike ((hZ.kept hS.2.1).narrow hFc)⟩⟩ rfl hn hsize rfl (lv_room h8) hdg hf) hS (fun q _ h => hFc q h) hFc (fun q _ h => hFc q h) (fun E ce q9 u t H1 locs1 ht hvm hpx hB hz hk hS1 hce hcv hcl => ?_) (fun u t H1 locs1 ht hvm hw hB hz1 hk1 hS1 => ?_)
  · exact vx_out (fun x h => (hno x h).elim) hlocks hce hcv hcl (fun t' ht' hvm' => kx E t' hpx hB hvm' (by rw [ht']; exact hkp hk) (hS1.F ht')) (fun z hz => hfree _ (hS1.2.2 z hz)) hmc hms
  · exact kk H1 locs1 hw (hkp hk1) hS1
end XC
