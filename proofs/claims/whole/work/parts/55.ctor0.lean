/-! Constructors: arrays whose class is known, the rows of a grid, the first state. -/
def Z0 : Nat → Nat → Nat := fun _ _ => 0
/-- the reference's own memory at first: its stack holds noughts -/
def Zm0 : Nat → Nat → Nat := fun f _ => if f = 2 then 1 else 0
/-- a start that makes arrays -/
def iB (D : va_G) (k : Nat → ClassId) (ws : va_W) (sz : Nat) (U : State) : Prop := wB D k ws sz U ∧ va_AOA .int U
theorem iB_blind {D : va_G} {k : Nat → ClassId} {ws : va_W} {sz : Nat} {av : List Value} : FrameBlind (va_Pc av (iB D k ws sz)) := fun a U g mk q => ⟨q.1, (wB_blind (av := av) a U g mk ⟨q.1, q.2.1⟩).2, arrayOver_alikeB (s := U) (U := U.calling g mk a) (Vm.Alike.refl U.vm) q.2.2⟩
theorem va_AOA.moved {t : FieldType} {u U : State} (h : u.vm.Alike U.vm) (q : va_AOA t u) : va_AOA t U := arrayOver_alikeB (s := u) (U := U) h q
section NCT
variable {p : Program} {l : Launch} {e : Env} {R : Room} {s : State} {m : MethodId} {args : Array Value} {below : List Frame} {meth : Method} {c : Code} {H : Heap} {locs : List Loc} {cells slots : Nat} {Q : State → Prop}
variable {cc : ByteArray} {pc : Nat} {ls : Array Slot} {rest : List Value} {D : va_G} {cl : List vw_C} {A : Nat → Prop} {a : Nat} {tys : List (ClassId × FieldType)} {ws : va_W} {H0 : Heap}
theorem na_newa (hexec : p.tables.exec = Jvm.exec) (hb : c.code = cc) {atype : ArrayType} (harr : (Cond.arrayClass (newarray.typeOf atype)).before args s = true) {ty : FieldType} (hty : newarray.typeOf atype = ty) (hK : va_K D cl tys s) (t0 : Nat) {cK : ClassId} (ht : tys[t0]? = some (cK, ty)) (hu : ∀ cA, va_RA s cA ty → va_RA s cK ty → cA = cK) (hP : va_P D cl ws H) (hD : va_D A ws) (hS : va_S A H0 H locs) (hA : ∀ q, H0.size ≤ q → A q)
    {n : Int32} {N' : Nat} {a0 : vp_A} (ha : ∀ cA : ClassId, vp_cell cA a0 = arrV cA N' (fun _ => defaultValue ty)) (hn : ¬ n < 0) (hN : n.toNatClampNeg = N') (hbytes : N' * componentBytes ty ≤ 536870912) (hcells : cells + 1 ≤ R.cells) (hslots : slots + N' ≤ R.slots) (hdg : decode cc pc = .ok (.newarray atype, 2))
    (kk : ∀ (q : Nat) (H1 : Heap), va_P D cl (ws ++ [(q, .inl (cK, a0))]) H1 → va_D A (ws ++ [(q, .inl (cK, a0))]) → va_S A H0 H1 locs →
      W p l e R s m args below meth c H1 locs (cells + 1) (slots + N') Q (F0 m (pc + 2) ls (.ref q :: rest))) : W p l e R s m args below meth c H locs cells slots Q (F0 m pc ls (.int n :: rest)) := by
  refine va_newa hexec hb harr hty hK hP hD hS hA ha hn hN hbytes hcells hslots hdg (fun q cA H1 hK1 hP1 hD1 hS1 => ?_)
  have e1 : cA = cK := hu cA (hK1.2 tys.length (cA, ty) (by rw [List.getElem?_append_right (Nat.le_refl _), Nat.sub_self]; rfl)).2 (hK.2 t0 _ ht).2
  subst e1
  exact kk q H1 hP1 hD1 hS1
theorem na_mna {X : va_W} {L : List Nat} {f : Nat → va_E} (hexec : p.tables.exec = Jvm.exec) (hb : c.code = cc) {own : String} {index : Nat} {c0 c2 : ClassId} (hown : s.vm.findClass own = some m.cls) (hclink : (Cond.classLink own index "[[I").before args s = true) (hover : va_AOA .int s) (harr : (Cond.arrayClass .int).before args s = true)
    (hK : va_K D cl tys s) (t0 t2 : Nat) (h0 : tys[t0]? = some (c0, .int)) (h2 : tys[t2]? = some (c2, .array .int)) (hP : va_P D cl (X ++ va_pl L f) H) (hD : va_D A (X ++ va_pl L f)) (hS : va_S A H0 H locs) (hA : ∀ q, H0.size ≤ q → A q) {n k : Int32} {N' K' : Nat} {z : vp_A} (hn : ¬ n < 0) (hk : ¬ k < 0) (hN : n.toNatClampNeg = N') (hM : k.toNatClampNeg = K')
    (hb1 : N' * 4 ≤ 536870912) (hb2 : K' * componentBytes .int ≤ 536870912) (hb3 : K' ≤ 536870912) (hcells : cells + (1 + N') ≤ R.cells) (hslots : slots + (N' + N' * K') ≤ R.slots) (hz : ∀ c : ClassId, vp_cell c z = arrV c K' (fun _ => Value.int 0)) (hdg : decode cc pc = .ok (.multianewarray index 2, 4))
    (kk : ∀ (q : Nat) (r : Nat → Nat) (H1 : Heap), va_P D cl ((X ++ [(q, .inl (c2, N', .inr (.inr (.inr (.inr (fun i => if i < N' then some (r i) else none))))))]) ++ (va_pl L f ++ ((List.range N').map r).map (fun a => (a, .inl (c0, z))))) H1 → va_D A ((X ++ [(q, .inl (c2, N', .inr (.inr (.inr (.inr (fun i => if i < N' then some (r i) else none))))))]) ++ (va_pl L f ++ ((List.range N').map r).map (fun a => (a, .inl (c0, z))))) → va_S A H0 H1 locs →
      W p l e R s m args below meth c H1 locs (cells + 1 + N') (slots + N' + N' * K') Q (F0 m (pc + 4) ls (.ref q :: rest))) : W p l e R s m args below meth c H locs cells slots Q (F0 m pc ls (.int k :: .int n :: rest)) := by
  refine va_mna (ty := .int) hexec hb hown hclink hover harr (hK.2 t0 _ h0).2 hK hP hD hS hA hn hk hN hM hb1 hb2 hb3 rfl rfl hcells hslots (z := z) (fun c9 => ?_) hdg (fun q r cA H1 hi hnl hK2 hP2 hD2 hS2 => ?_)
  · rw [hz]
    exact arrV_new c9 K' (.int 0)
  · have e1 : cA = c2 := by
      have g1 := (hK2.2 tys.length (cA, .array .int) (by rw [List.getElem?_append_right (Nat.le_refl _), Nat.sub_self]; rfl)).2
      have g2 := (hK.2 t2 _ h2).2
      exact Option.some.inj (g1.symm.trans g2)
    subst e1
    have hnm : ∀ a, a ∈ (List.range N').map r → a ∉ L := fun a ha => by
      obtain ⟨i, hi2, rfl⟩ := List.mem_map.mp ha
      exact hnl i (List.mem_range.mp hi2)
    rw [← vr_rows hnm] at hP2 hD2
    exact kk q r H1 hP2 hD2 hS2
theorem nI_nn {n : Nat} (h : n < 2 ^ 31) : ¬ nI n < 0 := fun q => by
  rw [Int32.lt_iff_toInt_lt, nI_toInt h] at q
  have h2 : (0 : Int32).toInt = 0 := by decide
  omega
theorem zr_I (n : Nat) (cA : ClassId) : vp_cell cA (n, .inl (fun _ => nI 0)) = arrV cA n (fun _ => defaultValue .int) := rfl
theorem zr_Z (n : Nat) (cA : ClassId) : vp_cell cA (n, .inl (fun _ => nI 0)) = arrV cA n (fun _ => defaultValue .boolean) := rfl
/-- new int[n] -/
theorem na_newI (hexec : p.tables.exec = Jvm.exec) (hb : c.code = cc) (harr : (Cond.arrayClass .int).before args s = true) (hK : va_K D cl tys s) (t0 : Nat) {cK : ClassId} (ht : tys[t0]? = some (cK, .int)) (hP : va_P D cl ws H) (hD : va_D A ws) (hS : va_S A H0 H locs) (hA : ∀ q, H0.size ≤ q → A q)
    {n : Nat} (hn : n ≤ 1000) (hcells : cells + 1 ≤ R.cells) (hslots : slots + n ≤ R.slots) (hdg : decode cc pc = .ok (.newarray .int, 2))
    (kk : ∀ (q : Nat) (H1 : Heap), va_P D cl (ws ++ [(q, .inl (cK, n, .inl (fun _ => nI 0)))]) H1 → va_D A (ws ++ [(q, .inl (cK, n, .inl (fun _ => nI 0)))]) → va_S A H0 H1 locs →
      W p l e R s m args below meth c H1 locs (cells + 1) (slots + n) Q (F0 m (pc + 2) ls (.ref q :: rest))) : W p l e R s m args below meth c H locs cells slots Q (F0 m pc ls (.int (nI n) :: rest)) :=
  na_newa (atype := .int) (N' := n) hexec hb harr rfl hK t0 ht (fun _ h1 h2 => Option.some.inj (h1.symm.trans h2)) hP hD hS hA (zr_I n) (nI_nn (by omega)) (nI_clamp (by omega)) (by show n * 4 ≤ _; omega) hcells hslots hdg kk
/-- new boolean[n] -/
theorem na_newZ (hexec : p.tables.exec = Jvm.exec) (hb : c.code = cc) (harr : (Cond.arrayClass .boolean).before args s = true) (hK : va_K D cl tys s) (t0 : Nat) {cK : ClassId} (ht : tys[t0]? = some (cK, .boolean)) (hP : va_P D cl ws H) (hD : va_D A ws) (hS : va_S A H0 H locs) (hA : ∀ q, H0.size ≤ q → A q)
    {n : Nat} (hn : n ≤ 1000) (hcells : cells + 1 ≤ R.cells) (hslots : slots + n ≤ R.slots) (hdg : decode cc pc = .ok (.newarray .boolean, 2))
    (kk : ∀ (q : Nat) (H1 : Heap), va_P D cl (ws ++ [(q, .inl (cK, n, .inl (fun _ => nI 0)))]) H1 → va_D A (ws ++ [(q, .inl (cK, n, .inl (fun _ => nI 0)))]) → va_S A H0 H1 locs →
      W p l e R s m args below meth c H1 locs (cells + 1) (slots + n) Q (F0 m (pc + 2) ls (.ref q :: rest))) : W p l e R s m args below meth c H locs cells slots Q (F0 m pc ls (.int (nI n) :: rest)) :=
  na_newa (atype := .boolean) (N' := n) hexec hb harr rfl hK t0 ht (fun _ h1 h2 => Option.some.inj (h1.symm.trans h2)) hP hD hS hA (zr_Z n) (nI_nn (by omega)) (nI_clamp (by omega)) (by show n * 1 ≤ _; omega) hcells hslots hdg kk
/-- new int[n][j] -/
theorem na_newG {X : va_W} {L : List Nat} {f : Nat → va_E} (hexec : p.tables.exec = Jvm.exec) (hb : c.code = cc) {own : String} {index : Nat} {c0 c2 : ClassId} (hown : s.vm.findClass own = some m.cls) (hclink : (Cond.classLink own index "[[I").before args s = true) (hover : va_AOA .int s) (harr : (Cond.arrayClass .int).before args s = true)
    (hK : va_K D cl tys s) (t0 t2 : Nat) (h0 : tys[t0]? = some (c0, .int)) (h2 : tys[t2]? = some (c2, .array .int)) (hP : va_P D cl (X ++ va_pl L f) H) (hD : va_D A (X ++ va_pl L f)) (hS : va_S A H0 H locs) (hA : ∀ q, H0.size ≤ q → A q) {n j : Nat} (hn : n ≤ 1000) (hj : j ≤ 1000)
    (hcells : cells + (1 + n) ≤ R.cells) (hslots : slots + (n + n * j) ≤ R.slots) (hdg : decode cc pc = .ok (.multianewarray index 2, 4))
    (kk : ∀ (q : Nat) (r : Nat → Nat) (H1 : Heap), va_P D cl ((X ++ [(q, .inl (c2, n, .inr (.inr (.inr (.inr (fun i => if i < n then some (r i) else none))))))]) ++ (va_pl L f ++ ((List.range n).map r).map (fun a => (a, .inl (c0, j, .inl (fun _ => nI 0)))))) H1 → va_D A ((X ++ [(q, .inl (c2, n, .inr (.inr (.inr (.inr (fun i => if i < n then some (r i) else none))))))]) ++ (va_pl L f ++ ((List.range n).map r).map (fun a => (a, .inl (c0, j, .inl (fun _ => nI 0)))))) → va_S A H0 H1 locs →
      W p l e R s m args below meth c H1 locs (cells + 1 + n) (slots + n + n * j) Q (F0 m (pc + 4) ls (.ref q :: rest))) : W p l e R s m args below meth c H locs cells slots Q (F0 m pc ls (.int (nI j) :: .int (nI n) :: rest)) :=
  na_mna (N' := n) (K' := j) hexec hb hown hclink hover harr hK t0 t2 h0 h2 hP hD hS hA (nI_nn (by omega)) (nI_nn (by omega)) (nI_clamp (by omega)) (nI_clamp (by omega)) (by omega) (by show j * 4 ≤ _; omega) (by omega) hcells hslots (zr_I j) hdg kk
end NCT
/-- Floor's cells at first -/
def flX (k : Nat → ClassId) (a : Nat) (x r : Nat → Nat) : va_W :=
  [(a, .inr (2, [.int (nI 0), .ref (x 3), .ref (x 4), .ref (x 5), .ref (x 6), .ref (x 7), .ref (x 8), .int (nI 0), .ref (x 9), .ref (x 10), .ref (x 11), .ref (x 12), .ref (x 13), .ref (x 14)])),
   (x 3, .inl (k 0, 20, .inl (fun _ => nI 0))), (x 4, .inl (k 0, 20, .inl (fun _ => nI 0))), (x 5, .inl (k 0, 20, .inl (fun _ => nI 0))), (x 6, .inl (k 1, 20, .inl (fun _ => nI 0))), (x 7, .inl (k 1, 20, .inl (fun _ => nI 0))), (x 8, .inl (k 0, 20, .inl (fun _ => nI 0))),
   (x 9, .inl (k 0, 80, .inl (fun _ => nI 0))), (x 10, .inl (k 0, 80, .inl (fun _ => nI 0))), (x 11, .inl (k 0, 80, .inl (fun _ => nI 0))), (x 12, .inl (k 1, 80, .inl (fun _ => nI 0))), (x 13, .inl (k 2, 40, .inr (.inr (.inr (.inr (fun i => if i < 40 then some (r i) else none)))))), (x 14, .inl (k 0, 40, .inl (fun _ => nI 0)))]
def rwL (k : Nat → ClassId) (r : Nat → Nat) : va_W := ((List.range 40).map r).map (fun a => (a, .inl (k 0, 40, .inl (fun _ => nI 0))))
def rwT (k : Nat → ClassId) (r : Nat → Nat) : va_W := ((List.range 8).map r).map (fun a => (a, .inl (k 0, 8, .inl (fun _ => nI 0))))
def drX (k : Nat → ClassId) (a : Nat) (x : Nat → Nat) : va_W := [(a, .inr (1, [.ref (x 15), .ref (x 16), .ref (x 17)])), (x 15, .inl (k 1, 80, .inl (fun _ => nI 0))), (x 16, .inl (k 0, 40, .inl (fun _ => nI 0))), (x 17, .inl (k 1, 20, .inl (fun _ => nI 0)))]
theorem rwL_pl (k : Nat → ClassId) (r : Nat → Nat) : rwL k r = va_pl ((List.range 40).map r) (fun _ => .inl (k 0, 40, .inl (fun _ => nI 0))) := rfl
theorem rw_all {k : Nat → ClassId} {r1 r2 : Nat → Nat} : rwL k r1 ++ rwT k r2 = (List.range 48).map (wRow k (fun i => if i < 40 then r1 i else r2 (i - 40)) Z0) := by
  have h48 : List.range 48 = List.range 40 ++ (List.range 8).map (40 + ·) := by decide
  unfold rwL rwT
  rw [h48, List.map_append, List.map_map, List.map_map, List.map_map]
  rfl
theorem up_m1 (i : Nat) : upd (fun j => if j < i then (-1 : Int32) else nI 0) i (-1) = fun j => if j < i + 1 then (-1 : Int32) else nI 0 := by
  funext j
  unfold upd
  by_cases h : j = i
  · rw [if_pos h, if_pos (by omega)]
  · rw [if_neg h]
    show (if j < i then (-1 : Int32) else nI 0) = _
    by_cases h1 : j < i
    · rw [if_pos h1, if_pos (by omega)]
    · rw [if_neg h1, if_neg (by omega)]
theorem gr_L (r1 r2 : Nat → Nat) : (fun i => if i < 40 then some (r1 i) else none) = (fun i : Nat => if i < 40 then some ((fun i => if i < 40 then r1 i else r2 (i - 40)) i) else none) := by
  funext i
  by_cases h : i < 40
  · rw [if_pos h, if_pos h]
    show some (r1 i) = some (if i < 40 then r1 i else r2 (i - 40))
    rw [if_pos h]
  · rw [if_neg h, if_neg h]
theorem gr_T (r1 r2 : Nat → Nat) : (fun i => if i < 8 then some (r2 i) else none) = (fun i : Nat => if i < 8 then some ((fun i => if i < 40 then r1 i else r2 (i - 40)) (40 + i)) else none) := by
  funext i
  by_cases h : i < 8
  · rw [if_pos h, if_pos h]
    show some (r2 i) = some (if 40 + i < 40 then r1 (40 + i) else r2 (40 + i - 40))
    rw [if_neg (by omega), Nat.add_sub_cancel_left]
  · rw [if_neg h, if_neg h]
