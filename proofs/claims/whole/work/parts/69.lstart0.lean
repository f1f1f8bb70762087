/-! The law's start: what the tables and the premises give. -/
set_option maxRecDepth 100000 in
theorem inX0 : ∀ w ∈ wsX00, w ∈ lw_tbl := by decide +kernel
set_option maxRecDepth 100000 in
theorem inX1 : ∀ w ∈ wsX10, w ∈ lw_tbl := by decide +kernel
set_option maxRecDepth 100000 in
theorem inX2 : ∀ w ∈ wsX20, w ∈ lw_tbl := by decide +kernel
set_option maxRecDepth 100000 in
theorem inX3 : ∀ w ∈ wsX30, w ∈ lw_tbl := by decide +kernel
set_option maxRecDepth 100000 in
theorem inJx : ∀ w ∈ wsJx000600, w ∈ lw_tbl := by decide +kernel
theorem wl_x0 : ∀ w ∈ (vx_atS RX2 45 "java/lang/IllegalArgumentException" ["java/lang/RuntimeException", "java/lang/Exception"]).filter goodWord, w ∈ lw_tbl := by decide +kernel
theorem wl_x1 : ∀ w ∈ (vx_atS RX2 58 "java/lang/UnsupportedOperationException" ["java/lang/RuntimeException", "java/lang/Exception"]).filter goodWord, w ∈ lw_tbl := by decide +kernel
theorem wl_x2 : ∀ w ∈ (vx_atS RX2 157 "java/lang/IllegalStateException" ["java/lang/RuntimeException", "java/lang/Exception"]).filter goodWord, w ∈ lw_tbl := by decide +kernel
theorem wl_x3 : ∀ w ∈ (vx_atS RX2 170 eAI nm3).filter goodWord, w ∈ lw_tbl := by decide +kernel
theorem fa_ {P : Cond → Prop} {l1 l2 : List Cond} (h1 : ∀ w ∈ l1, P w) (h2 : ∀ w ∈ l2, P w) : ∀ w ∈ l1 ++ l2, P w := List.forall_mem_append.mpr ⟨h1, h2⟩
theorem wsL_law_in : ∀ w ∈ wsL_law, w ∈ lw_tbl :=
  fa_ (fa_ (fa_ (fa_ (fa_ (fa_ (fa_ (fa_ (fa_ (fa_ wl_1 (fa_ wl_2 (fa_ wl_3 (fa_ wl_4 (fa_ wl_5 (fa_ wl_6 (fa_ wl_7 (fa_ wl_8 (fa_ wl_9 (fa_ wl_10 (fa_ wl_11 (fa_ wl_12 (fa_ wl_13 (fa_ wl_14 (fa_ wl_15 (fa_ wl_16 (fa_ wl_17 (fa_ wl_18 (fa_ wl_19 wl_20))))))))))))))))))) inX2) inX3) inX1) inX0) inJx) (fun _ h => nomatch h)) wl_x0) wl_x1) wl_x2
theorem in_nsF : ∀ x ∈ nsF, Cond.fieldLinkNest x.1 x.2.1 x.2.2.1 x.2.2.2.1 x.2.2.2.2.1 x.2.2.2.2.2 ∈ lw_tbl := by decide +kernel
theorem in_nsM : ∀ x ∈ nsM, Cond.methodLinkNest x.1 x.2.1 x.2.2 "FloorGraph" ∈ lw_tbl := by decide +kernel
theorem in_str : ∀ x ∈ strs, Cond.stringRef "FloorGraph" x.1 x.2 ∈ lw_tbl := by decide +kernel
theorem in_cst : ∀ x ∈ cst, Cond.castable x x ∈ lw_tbl := by decide +kernel
theorem in_dcl : ∀ x ∈ dcl, Cond.declares (Bundle.initS x) ∈ lw_tbl := by decide +kernel
theorem in_lkw : ∀ w ∈ lkw, w ∈ lw_tbl := by decide +kernel
section ST
variable {s : State} {b : Nat} {args : Array Value}
theorem st_arr {ty : FieldType} (h : (Cond.arrayClass ty).before args s = true) : ∃ c : ClassId, ArrOfT s c ty ∧ s.vm.findClass ("[" ++ ty.toString) = some c := by
  obtain ⟨c, k, comp, h1, h2, h3⟩ := Cond.arrayClass_spec h
  exact ⟨c, fun n z => ⟨fun k h => (by cases h), k, h2, comp, h3⟩, h1⟩
theorem st_grid (h : (Cond.arrayOver (.array .int)).before args s = true) : ∃ c : ClassId, ArrOfT s c (.array .int) ∧ s.vm.findClass ("[" ++ (FieldType.array .int).toString) = some c := by
  obtain ⟨comp, c, k, h1, h2, h3, h4⟩ := Cond.arrayOver_specA h
  exact ⟨c, fun n z => ⟨fun k h => (by cases h), k, h2, comp, h3⟩, h4⟩
theorem st_KX (hts : ∀ w ∈ lw_tbl, w.before args s = true) : ∃ (D : va_G) (k : Nat → ClassId), KX D k s := by
  obtain ⟨c0, i0, h0⟩ := u_known (C := RJx00060) (T := TJx00060) (N := 6) (n := 6) hts inJx (hts (.instantiable RJx00060 6) (by decide +kernel))
  obtain ⟨c1, i1, h1⟩ := u_known (C := RX0) (T := TX0) (N := 3) (n := 3) hts inX0 (hts (.instantiable RX0 3) (by decide +kernel))
  obtain ⟨c2, i2, h2⟩ := u_known (C := RX1) (T := TX1) (N := 14) (n := 14) hts inX1 (hts (.instantiable RX1 14) (by decide +kernel))
  obtain ⟨c3, i3, h3⟩ := u_known (C := RX2) (T := TX2) (N := 12) (n := 12) hts inX2 (hts (.instantiable RX2 12) (by decide +kernel))
  obtain ⟨c4, i4, h4⟩ := u_known (C := RX3) (T := TX3) (N := 24) (n := 24) hts inX3 (hts (.instantiable RX3 24) (by decide +kernel))
  obtain ⟨k0, a0, b0⟩ := st_arr (ty := .int) (hts (.arrayClass .int) (by decide +kernel))
  obtain ⟨k1, a1, b1⟩ := st_arr (ty := .boolean) (hts (.arrayClass .boolean) (by decide +kernel))
  obtain ⟨k2, a2, b2⟩ := st_grid (hts (.arrayOver (.array .int)) (by decide +kernel))
  obtain ⟨k3, a3, b3⟩ := st_arr (ty := .long) (hts (.arrayClass .long) (by decide +kernel))
  refine ⟨(fun c => [c0, c1, c2, c3, c4].getD c c0, fun c => [i0, i1, i2, i3, i4].getD c i0), fun c => [k0, k1, k2, k3].getD c k0, ⟨fun c q hq => ?_, fun c q hq => ?_⟩, fun x hx => va_Nw.of rfl (hts _ (in_nsF x hx)), fun x hx => va_Nw.of rfl (hts _ (in_nsM x hx))⟩
  · match c, hq with
    | 0, hq => cases hq; exact h0
    | 1, hq => cases hq; exact h1
    | 2, hq => cases hq; exact h2
    | 3, hq => cases hq; exact h3
    | 4, hq => cases hq; exact h4
    | c + 5, hq => simp [vwCl] at hq
  · match c, hq with
    | 0, hq => cases hq; exact ⟨a0, b0⟩
    | 1, hq => cases hq; exact ⟨a1, b1⟩
    | 2, hq => cases hq; exact ⟨a2, b2⟩
    | 3, hq => cases hq; exact ⟨a3, b3⟩
    | c + 4, hq => simp [tk] at hq
theorem st_KT (hts : ∀ w ∈ lw_tbl, w.before args s = true) : KT s := by
  obtain ⟨cC, kC, hfc, -⟩ := Cond.instantiable_spec (hts (.instantiable RX2 12) (by decide +kernel))
  refine ⟨fun x hx => ?_, fun x hx => va_Nw.of rfl (hts _ (in_cst x hx)), fun x hx => va_Nw.of rfl (hts _ (in_dcl x hx)), fun w hw => va_tabs (at9_t w hw) rfl (hts w (wl_x3 w hw))⟩
  have h := hts _ (in_str x hx)
  obtain ⟨k, cf, i, a, -, -, -, -, -, h9⟩ := Cond.stringRef_spec hfc h
  exact ⟨a, vk_R.of h h9⟩
theorem st_KN (hts : ∀ w ∈ lw_tbl, w.before args s = true) (hgv : (Jvm.Cond.and given_1 narrow_1).before args s = true) : KN s := by
  have hs := flat_of_before _ hgv
  refine ⟨?_, fun w hw => va_tabs (lkw_t w hw) rfl (hts w (in_lkw w hw))⟩
  unfold ncl
  refine List.forall_mem_cons.mpr ⟨va_Nc.of (hs _ (by decide +kernel)), List.forall_mem_cons.mpr ⟨va_Nc.of (hs _ (by decide +kernel)), List.forall_mem_cons.mpr ⟨va_Nc.of (hs _ (by decide +kernel)), List.forall_mem_cons.mpr ⟨va_Nc.of (hs _ (by decide +kernel)), fun _ h => nomatch h⟩⟩⟩⟩
theorem st_TZ (hts : ∀ w ∈ lw_tbl, w.before args s = true) (hgv : (Jvm.Cond.and given_1 narrow_1).before args s = true) : TZ (fun q => s.heap.size ≤ q) s s.heap := by
  have hs := flat_of_before _ hgv
  exact ⟨vx_Zqof (hts _ (by decide +kernel)) (hts _ (by decide +kernel)) (hs _ (by decide +kernel)) (fun a ha => Nat.not_le.mpr ha), vx_Zqof (hts _ (by decide +kernel)) (hts _ (by decide +kernel)) (hs _ (by decide +kernel)) (fun a ha => Nat.not_le.mpr ha)⟩
end ST
theorem z0_le (f i n : Nat) : Z0 f i ≤ n := Nat.zero_le n
theorem z0_lt (f i : Nat) {n : Nat} (h : 0 < n) : Z0 f i < n := h
theorem IV_0 : IV 0 Z0 := ⟨⟨⟨z0_le _ _ _, z0_le _ _ _, rfl, z0_le _ _ _, z0_le _ _ _, z0_le _ _ _, z0_le _ _ _, z0_le _ _ _, fun h => absurd h (Nat.lt_irrefl 0)⟩, fun i => ⟨z0_le _ _ _, z0_le _ _ _, z0_le _ _ _, z0_le _ _ _, z0_le _ _ _, z0_lt _ _ (by decide)⟩, fun i h => absurd h (Nat.not_lt_zero i), fun p => ⟨z0_le _ _ _, z0_le _ _ _⟩, fun p h => absurd h (Nat.not_lt_zero p), fun j => ⟨rfl, rfl, rfl⟩, fun i => z0_le _ _ _, fun i h => absurd h (Nat.not_lt_zero i), fun i => z0_le _ _ _, fun i => z0_lt _ _ (by decide)⟩, fun i => z0_lt _ _ (by decide)⟩
theorem CI_0 : CI Z0 Z0 := ⟨fun p => z0_le _ _ _, fun p => z0_le _ _ _, fun e he => ⟨fun F => rfl, fun i h => absurd h (Nat.not_lt_zero i), z0_le _ _ _⟩, fun i h => absurd h (Nat.not_lt_zero i)⟩
theorem Rb_0 : Rb (Zm0 1) := fun e => Or.inr (Nat.zero_le 50000)
