set_option maxHeartbeats 4000000 in
set_option maxRecDepth 100000 in
theorem k_L_piece (l : Launch) (hst : l.stackTraces = false) (D : va_G) (q : Nat → Nat) (k : Nat → ClassId) (r : Nat → Nat) (S Z : Nat → Nat → Nat) (sz o : Nat) (f : Nat → Int64) (x0 : Int32) (x1 : Int32) (b : Bool) (hB : Bd S) : Met l yL_piece wsL_piece ({ frames := 7, cells := 1, slots := 6, locals := 113 } : Room) (va_Pc [.ref (q 0), .int x0, .int x1, .int (nI (bN b)), .ref o] (lB D k (oX k o f ++ wC q k r S Z) sz)) (va_Qi (wPost (cdP S x0 x1) S (addP S (iN x0) (iN x1) (bN b)) Z (fun z => z = Z) ((nI (S 0 0)).toInt64)) (fun u t => wE D (va_A (oX k o f ++ wC q k r S Z) sz) (oX k o u.2.2 ++ wC q k r u.1 u.2.1) t) (va_A (oX k o f ++ wC q k r S Z) sz)) 1 6 (va_A (oX k o f ++ wC q k r S Z) sz) := by
  refine va_MetW (cc := cL_piece) (maxL := 6) (ret := some .int) (by decide) rfl ?_
  intro p e s m args below meth c s₁ B hml hv
  obtain ⟨rfl, ⟨⟨hsz, hP, hX, hD0⟩, hT, hZ⟩, hN⟩ := hv
  have hx := B.exec
  have hb := B.bytes
  have hr := B.returns
  have hts := atoms_spec (ws := wsL_piece) B.pre
  have htab := vx_table (x := yL_piece) B (hts _ List.mem_cons_self)
  have hown : s.vm.findClass RL = some m.cls := findClass_of_methodNamed B.named
  have hlocks := B.notSynchronized
  subst hsz
  have hD := hD0.self (sz := s.heap.size)
  generalize hAe : va_A (oX k o f ++ wC q k r S Z) s.heap.size = A at hD hZ ⊢
  have hA : ∀ q : Nat, s.heap.size ≤ q → A q := fun q h => by rw [← hAe]; exact Or.inr h
  have hS : va_S A s.heap s.heap [] := va_S.rf
  have hl := lv_entry ([.ref (q 0), .int x0, .int x1, .int (nI (bN b)), .ref o]) (n := 6) (Nat.le_of_ble_eq_true rfl)
  rw [lg_entry_eq]
  generalize (lg_sl ([.ref (q 0), .int x0, .int x1, .int (nI (bN b)), .ref o]) ++ List.replicate (6 - (lg_sl ([.ref (q 0), .int x0, .int x1, .int (nI (bN b)), .ref o])).length) Slot.unset).toArray = ls at hl ⊢
  have hl : lv_has ls 6 [(0, .ref (q 0)), (1, .int x0), (2, .int x1), (3, .int (nI (bN b))), (4, .ref o)] := hl
  refine lv_aload hx hb dL_piece_0 (lv_at hl 4 rfl) ?_
  refine lv_iconst (v := nI 0) hx hb dL_piece_2 (by decide) ?_
  refine lv_aload_n hx hb dL_piece_3 rfl (lv_at hl 0 rfl) ?_
  refine lv_iload_n hx hb dL_piece_4 rfl (lv_at hl 1 rfl) ?_
  refine lv_iload_n hx hb dL_piece_5 rfl (lv_at hl 2 rfl) ?_
  refine lv_iload_n hx hb dL_piece_6 rfl (lv_at hl 3 rfl) ?_
  refine lx_Vi (Wr := oX k o f) (Wd := wC q k r S Z) (As := [.int x0, .int x1, .int (nI (bN b))]) (rest := [.int (nI 0), .ref o]) ⟨hx, hb, hml, hown, hts⟩ (k_X2_piece l hst D q k r S Z _ x0 x1 b hB) (cwV 3 hts gL_piece_X2_piece rfl rfl rfl (by decide +kernel) ⟨by decide, by decide⟩) hX hT hZ hP hD hS hA (q0 := 0) rfl rfl rfl hl.1 rfl (Nat.le_of_ble_eq_true rfl) dL_piece_7 ⟨(Nat.le_of_ble_eq_true rfl), (Nat.le_of_ble_eq_true rfl)⟩ (fun E u ce q9 H locs _ hxe hP hD hS hce hcv hcl => ?_) (fun r9 u H locs hp hP hD hS => ?_)
  · rcases hxe with ⟨rfl, hcd⟩ | ⟨rfl, hcd⟩
    · skip
      refine vx_catch (own := RL) (name := eIA) hown [] ⟨0, 12, 15, 13⟩ [⟨0, 12, 19, 15⟩] htab (fun z hz => nomatch hz) (by decide) (by decide) (hts (.classLink RL 13 eIA) (by decide +kernel)) (va_Nw.use rfl (hT.2.1 eIA (by decide +kernel))) hce hcv hcl ?_
      refine lv_astore hx hb dL_piece_15 hl (by decide) rfl (fun ls hl => ?_)
      refine lv_iconst (v := nI 1) hx hb dL_piece_17 (by decide) ?_
      refine W.widen (k := 1) (n := 6) (Nat.le_of_ble_eq_true rfl) (Nat.le_of_ble_eq_true rfl) ?_
      exact W.iret hx hb hr (fun t ht hW => ⟨⟨nI 1, (S, Z, f), rfl, wPn hcd (by decide), by rw [ht]; exact hP, hD⟩, hS.F ht⟩) hS.2.2 dL_piece_18
    · skip
      refine vx_catch (own := RL) (name := eUO) hown [⟨0, 12, 15, 13⟩] ⟨0, 12, 19, 15⟩ [] htab (al_1 (Or.inr ⟨by decide, eIA, (hts (.classLink RL 13 eIA) (by decide +kernel)), hN.1 (eUO, eIA) (by decide +kernel)⟩)) (by decide) (by decide) (hts (.classLink RL 15 eUO) (by decide +kernel)) (va_Nw.use rfl (hT.2.1 eUO (by decide +kernel))) hce hcv hcl ?_
      refine lv_astore hx hb dL_piece_19 hl (by decide) rfl (fun ls hl => ?_)
      refine lv_iconst (v := nI 2) hx hb dL_piece_21 (by decide) ?_
      refine W.widen (k := 1) (n := 6) (Nat.le_of_ble_eq_true rfl) (Nat.le_of_ble_eq_true rfl) ?_
      exact W.iret hx hb hr (fun t ht hW => ⟨⟨nI 2, (S, Z, f), rfl, wPn hcd (by decide), by rw [ht]; exact hP, hD⟩, hS.F ht⟩) hS.2.2 dL_piece_22
  · skip
    refine lv_i2l (v := r9.toInt64) hx hb dL_piece_10 rfl ?_
    refine va_last hx hb hX.1 hP hD hS 0 3 rfl rfl (vp_in_nI (by decide) (by decide)) dL_piece_11 (fun H locs hP hD hS => ?_)
    rw [nI_clamp (n := 0) (by decide)] at hP hD
    have hP : va_P D vwCl (oX k o (vp_updL f 0 r9.toInt64) ++ wC q k r u.1 u.2) H := hP
    have hD : va_D A (oX k o (vp_updL f 0 r9.toInt64) ++ wC q k r u.1 u.2) := hD
    refine lv_goto (tgt := 23) hx hb dL_piece_12 (by decide) ?_
    refine lv_iconst (v := nI 0) hx hb dL_piece_23 (by decide) ?_
    refine W.widen (k := 1) (n := 6) (Nat.le_of_ble_eq_true rfl) (Nat.le_of_ble_eq_true rfl) ?_
    exact W.iret hx hb hr (fun t ht hW => ⟨⟨nI 0, (u.1, u.2, vp_updL f 0 r9.toInt64), rfl, wP0 hp.1 hp.2.2.1 hp.2.2.2 (by rw [hp.2.1]; exact updL0 (f := f) (x := (nI (S 0 0)).toInt64)), by rw [ht]; exact hP, hD⟩, hS.F ht⟩) hS.2.2 dL_piece_24

set_option maxHeartbeats 4000000 in
set_option maxRecDepth 100000 in
theorem k_L_join (l : Launch) (hst : l.stackTraces = false) (D : va_G) (q : Nat → Nat) (k : Nat → ClassId) (r : Nat → Nat) (S Z : Nat → Nat → Nat) (sz o : Nat) (f : Nat → Int64) (x0 : Int32) (x1 : Int32) (x2 : Int32) (x3 : Int32) (x4 : Int32) (hB : Bd S) (hj : S 0 1 % 2 = 0) (hz : ∀ e, e < 40 → S 0 1 < 80 → Z 3 e < 40) : Met l yL_join wsL_join ({ frames := 8, cells := 5, slots := 30, locals := 138 } : Room) (va_Pc [.ref (q 0), .int x0, .int x1, .int x2, .int x3, .int x4, .ref o] (lB D k (oX k o f ++ wC q k r S Z) sz)) (va_Qi (wPost (cdJ S x0 x1 x2 x3 x4) S (addJ S (2 * iN x0 + iN x1) (2 * iN x2 + iN x3) (iN x4)) Z (fun z => z = lv2 S Z (2 * iN x0 + iN x1) (2 * iN x2 + iN x3) (iN x4)) ((nI (S 0 1 / 2)).toInt64)) (fun u t => wE D (va_A (oX k o f ++ wC q k r S Z) sz) (oX k o u.2.2 ++ wC q k r u.1 u.2.1) t) (va_A (oX k o f ++ wC q k r S Z) sz)) 5 30 (va_A (oX k o f ++ wC q k r S Z) sz) := by
  refine va_MetW (cc := cL_join) (maxL := 8) (ret := some .int) (by decide) rfl ?_
  intro p e s m args below meth c s₁ B hml hv
  obtain ⟨rfl, ⟨⟨hsz, hP, hX, hD0⟩, hT, hZ⟩, hN⟩ := hv
  have hx := B.exec
  have hb := B.bytes
  have hr := B.returns
  have hts := atoms_spec (ws := wsL_join) B.pre
  have htab := vx_table (x := yL_join) B (hts _ List.mem_cons_self)
  have hown : s.vm.findClass RL = some m.cls := findClass_of_methodNamed B.named
  have hlocks := B.notSynchronized
  subst hsz
  have hD := hD0.self (sz := s.heap.size)
  generalize hAe : va_A (oX k o f ++ wC q k r S Z) s.heap.size = A at hD hZ ⊢
  have hA : ∀ q : Nat, s.heap.size ≤ q → A q := fun q h => by rw [← hAe]; exact Or.inr h
  have hS : va_S A s.heap s.heap [] := va_S.rf
  have hl := lv_entry ([.ref (q 0), .int x0, .int x1, .int x2, .int x3, .int x4, .ref o]) (n := 8) (Nat.le_of_ble_eq_true rfl)
  rw [lg_entry_eq]
  generalize (lg_sl ([.ref (q 0), .int x0, .int x1, .int x2, .int x3, .int x4, .ref o]) ++ List.replicate (8 - (lg_sl ([.ref (q 0), .int x0, .int x1, .int x2, .int x3, .int x4, .ref o])).length) Slot.unset).toArray = ls at hl ⊢
  have hl : lv_has ls 8 [(0, .ref (q 0)), (1, .int x0), (2, .int x1), (3, .int x2), (4, .int x3), (5, .int x4), (6, .ref o)] := hl
  refine lv_aload hx hb dL_join_0 (lv_at hl 6 rfl) ?_
  refine lv_iconst (v := nI 0) hx hb dL_join_2 (by decide) ?_
  refine lv_aload_n hx hb dL_join_3 rfl (lv_at hl 0 rfl) ?_
  refine lv_iload_n hx hb dL_join_4 rfl (lv_at hl 1 rfl) ?_
  refine lv_iload_n hx hb dL_join_5 rfl (lv_at hl 2 rfl) ?_
  refine lv_iload_n hx hb dL_join_6 rfl (lv_at hl 3 rfl) ?_
  refine lv_iload hx hb dL_join_7 (lv_at hl 4 rfl) ?_
  refine lv_iload hx hb dL_join_9 (lv_at hl 5 rfl) ?_
  refine lx_Vi (Wr := oX k o f) (Wd := wC q k r S Z) (As := [.int x0, .int x1, .int x2, .int x3, .int x4]) (rest := [.int (nI 0), .ref o]) ⟨hx, hb, hml, hown, hts⟩ (k_X2_join l hst D q k r S Z _ x0 x1 x2 x3 x4 hB hj hz) (cwV 5 hts gL_join_X2_join rfl rfl rfl (by decide +kernel) ⟨by decide, by decide⟩) hX hT hZ hP hD hS hA (q0 := 0) rfl rfl rfl hl.1 rfl (Nat.le_of_ble_eq_true rfl) dL_join_11 ⟨(Nat.le_of_ble_eq_true rfl), (Nat.le_of_ble_eq_true rfl)⟩ (fun E u ce q9 H locs _ hxe hP hD hS hce hcv hcl => ?_) (fun r9 u H locs hp hP hD hS => ?_)
  · rcases hxe with ⟨rfl, hcd⟩ | ⟨rfl, hcd⟩
    · skip
      refine vx_catch (own := RL) (name := eIA) hown [] ⟨0, 16, 19, 13⟩ [⟨0, 16, 23, 15⟩] htab (fun z hz => nomatch hz) (by decide) (by decide) (hts (.classLink RL 13 eIA) (by decide +kernel)) (va_Nw.use rfl (hT.2.1 eIA (by decide +kernel))) hce hcv hcl ?_
      refine lv_astore hx hb dL_join_19 hl (by decide) rfl (fun ls hl => ?_)
      refine lv_iconst (v := nI 1) hx hb dL_join_21 (by decide) ?_
      refine W.widen (k := 5) (n := 30) (Nat.le_of_ble_eq_true rfl) (Nat.le_of_ble_eq_true rfl) ?_
      exact W.iret hx hb hr (fun t ht hW => ⟨⟨nI 1, (S, Z, f), rfl, wPn hcd (by decide), by rw [ht]; exact hP, hD⟩, hS.F ht⟩) hS.2.2 dL_join_22
    · skip
      refine vx_catch (own := RL) (name := eUO) hown [⟨0, 16, 19, 13⟩] ⟨0, 16, 23, 15⟩ [] htab (al_1 (Or.inr ⟨by decide, eIA, (hts (.classLink RL 13 eIA) (by decide +kernel)), hN.1 (eUO, eIA) (by decide +kernel)⟩)) (by decide) (by decide) (hts (.classLink RL 15 eUO) (by decide +kernel)) (va_Nw.use rfl (hT.2.1 eUO (by decide +kernel))) hce hcv hcl ?_
      refine lv_astore hx hb dL_join_23 hl (by decide) rfl (fun ls hl => ?_)
      refine lv_iconst (v := nI 2) hx hb dL_join_25 (by decide) ?_
      refine W.widen (k := 5) (n := 30) (Nat.le_of_ble_eq_true rfl) (Nat.le_of_ble_eq_true rfl) ?_
      exact W.iret hx hb hr (fun t ht hW => ⟨⟨nI 2, (S, Z, f), rfl, wPn hcd (by decide), by rw [ht]; exact hP, hD⟩, hS.F ht⟩) hS.2.2 dL_join_26
  · skip
    refine lv_i2l (v := r9.toInt64) hx hb dL_join_14 rfl ?_
    refine va_last hx hb hX.1 hP hD hS 0 3 rfl rfl (vp_in_nI (by decide) (by decide)) dL_join_15 (fun H locs hP hD hS => ?_)
    rw [nI_clamp (n := 0) (by decide)] at hP hD
    have hP : va_P D vwCl (oX k o (vp_updL f 0 r9.toInt64) ++ wC q k r u.1 u.2) H := hP
    have hD : va_D A (oX k o (vp_updL f 0 r9.toInt64) ++ wC q k r u.1 u.2) := hD
    refine lv_goto (tgt := 27) hx hb dL_join_16 (by decide) ?_
    refine lv_iconst (v := nI 0) hx hb dL_join_27 (by decide) ?_
    refine W.widen (k := 5) (n := 30) (Nat.le_of_ble_eq_true rfl) (Nat.le_of_ble_eq_true rfl) ?_
    exact W.iret hx hb hr (fun t ht hW => ⟨⟨nI 0, (u.1, u.2, vp_updL f 0 r9.toInt64), rfl, wP0 hp.1 hp.2.2.1 hp.2.2.2 (by rw [hp.2.1]; exact updL0 (f := f) (x := (nI (S 0 1 / 2)).toInt64)), by rw [ht]; exact hP, hD⟩, hS.F ht⟩) hS.2.2 dL_join_28

set_option maxHeartbeats 4000000 in
set_option maxRecDepth 100000 in
theorem k_L_lift (l : Launch) (hst : l.stackTraces = false) (D : va_G) (q : Nat → Nat) (k : Nat → ClassId) (r : Nat → Nat) (S Z : Nat → Nat → Nat) (sz o : Nat) (f : Nat → Int64) (x0 : Int32) (x1 : Int32) (x2 : Int32) (hB : Bd S) (hj : S 0 1 % 2 = 0) (hz : ∀ e, e < 40 → S 0 1 < 80 → Z 3 e < 40) : Met l yL_lift wsL_lift ({ frames := 8, cells := 3, slots := 18, locals := 136 } : Room) (va_Pc [.ref (q 0), .int x0, .int x1, .int x2, .ref o] (lB D k (oX k o f ++ wC q k r S Z) sz)) (va_Qi (wPost (cdL S x0 x1 x2) S (addJ S (2 * iN x0 + 1) (2 * iN x1 + 1) (iN x2)) Z (fun z => z = lv2 S Z (2 * iN x0 + 1) (2 * iN x1 + 1) (iN x2)) ((nI (S 0 1 / 2)).toInt64)) (fun u t => wE D (va_A (oX k o f ++ wC q k r S Z) sz) (oX k o u.2.2 ++ wC q k r u.1 u.2.1) t) (va_A (oX k o f ++ wC q k r S Z) sz)) 3 18 (va_A (oX k o f ++ wC q k r S Z) sz) := by
  refine va_MetW (cc := cL_lift) (maxL := 6) (ret := some .int) (by decide) rfl ?_
  intro p e s m args below meth c s₁ B hml hv
  obtain ⟨rfl, ⟨⟨hsz, hP, hX, hD0⟩, hT, hZ⟩, hN⟩ := hv
  have hx := B.exec
  have hb := B.bytes
  have hr := B.returns
  have hts := atoms_spec (ws := wsL_lift) B.pre
  have htab := vx_table (x := yL_lift) B (hts _ List.mem_cons_self)
  have hown : s.vm.findClass RL = some m.cls := findClass_of_methodNamed B.named
  have hlocks := B.notSynchronized
  subst hsz
  have hD := hD0.self (sz := s.heap.size)
  generalize hAe : va_A (oX k o f ++ wC q k r S Z) s.heap.size = A at hD hZ ⊢
  have hA : ∀ q : Nat, s.heap.size ≤ q → A q := fun q h => by rw [← hAe]; exact Or.inr h
  have hS : va_S A s.heap s.heap [] := va_S.rf
  have hl := lv_entry ([.ref (q 0), .int x0, .int x1, .int x2, .ref o]) (n := 6) (Nat.le_of_ble_eq_true rfl)
  rw [lg_entry_eq]
  generalize (lg_sl ([.ref (q 0), .int x0, .int x1, .int x2, .ref o]) ++ List.replicate (6 - (lg_sl ([.ref (q 0), .int x0, .int x1, .int x2, .ref o])).length) Slot.unset).toArray = ls at hl ⊢
  have hl : lv_has ls 6 [(0, .ref (q 0)), (1, .int x0), (2, .int x1), (3, .int x2), (4, .ref o)] := hl
  refine lv_aload hx hb dL_lift_0 (lv_at hl 4 rfl) ?_
  refine lv_iconst (v := nI 0) hx hb dL_lift_2 (by decide) ?_
  refine lv_aload_n hx hb dL_lift_3 rfl (lv_at hl 0 rfl) ?_
  refine lv_iload_n hx hb dL_lift_4 rfl (lv_at hl 1 rfl) ?_
  refine lv_iload_n hx hb dL_lift_5 rfl (lv_at hl 2 rfl) ?_
  refine lv_iload_n hx hb dL_lift_6 rfl (lv_at hl 3 rfl) ?_
  refine lx_Vi (Wr := oX k o f) (Wd := wC q k r S Z) (As := [.int x0, .int x1, .int x2]) (rest := [.int (nI 0), .ref o]) ⟨hx, hb, hml, hown, hts⟩ (k_X2_lift l hst D q k r S Z _ x0 x1 x2 hB hj hz) (cwV 3 hts gL_lift_X2_lift rfl rfl rfl (by decide +kernel) ⟨by decide, by decide⟩) hX hT hZ hP hD hS hA (q0 := 0) rfl rfl rfl hl.1 rfl (Nat.le_of_ble_eq_true rfl) dL_lift_7 ⟨(Nat.le_of_ble_eq_true rfl), (Nat.le_of_ble_eq_true rfl)⟩ (fun E u ce q9 H locs _ hxe hP hD hS hce hcv hcl => ?_) (fun r9 u H locs hp hP hD hS => ?_)
  · rcases hxe with ⟨rfl, hcd⟩ | ⟨rfl, hcd⟩
    · skip
      refine vx_catch (own := RL) (name := eIA) hown [] ⟨0, 12, 15, 13⟩ [⟨0, 12, 19, 15⟩] htab (fun z hz => nomatch hz) (by decide) (by decide) (hts (.classLink RL 13 eIA) (by decide +kernel)) (va_Nw.use rfl (hT.2.1 eIA (by decide +kernel))) hce hcv hcl ?_
      refine lv_astore hx hb dL_lift_15 hl (by decide) rfl (fun ls hl => ?_)
      refine lv_iconst (v := nI 1) hx hb dL_lift_17 (by decide) ?_
      refine W.widen (k := 3) (n := 18) (Nat.le_of_ble_eq_true rfl) (Nat.le_of_ble_eq_true rfl) ?_
      exact W.iret hx hb hr (fun t ht hW => ⟨⟨nI 1, (S, Z, f), rfl, wPn hcd (by decide), by rw [ht]; exact hP, hD⟩, hS.F ht⟩) hS.2.2 dL_lift_18
    · skip
      refine vx_catch (own := RL) (name := eUO) hown [⟨0, 12, 15, 13⟩] ⟨0, 12, 19, 15⟩ [] htab (al_1 (Or.inr ⟨by decide, eIA, (hts (.classLink RL 13 eIA) (by decide +kernel)), hN.1 (eUO, eIA) (by decide +kernel)⟩)) (by decide) (by decide) (hts (.classLink RL 15 eUO) (by decide +kernel)) (va_Nw.use rfl (hT.2.1 eUO (by decide +kernel))) hce hcv hcl ?_
      refine lv_astore hx hb dL_lift_19 hl (by decide) rfl (fun ls hl => ?_)
      refine lv_iconst (v := nI 2) hx hb dL_lift_21 (by decide) ?_
      refine W.widen (k := 3) (n := 18) (Nat.le_of_ble_eq_true rfl) (Nat.le_of_ble_eq_true rfl) ?_
      exact W.iret hx hb hr (fun t ht hW => ⟨⟨nI 2, (S, Z, f), rfl, wPn hcd (by decide), by rw [ht]; exact hP, hD⟩, hS.F ht⟩) hS.2.2 dL_lift_22
  · skip
    refine lv_i2l (v := r9.toInt64) hx hb dL_lift_10 rfl ?_
    refine va_last hx hb hX.1 hP hD hS 0 3 rfl rfl (vp_in_nI (by decide) (by decide)) dL_lift_11 (fun H locs hP hD hS => ?_)
    rw [nI_clamp (n := 0) (by decide)] at hP hD
    have hP : va_P D vwCl (oX k o (vp_updL f 0 r9.toInt64) ++ wC q k r u.1 u.2) H := hP
    have hD : va_D A (oX k o (vp_updL f 0 r9.toInt64) ++ wC q k r u.1 u.2) := hD
    refine lv_goto (tgt := 23) hx hb dL_lift_12 (by decide) ?_
    refine lv_iconst (v := nI 0) hx hb dL_lift_23 (by decide) ?_
    refine W.widen (k := 3) (n := 18) (Nat.le_of_ble_eq_true rfl) (Nat.le_of_ble_eq_true rfl) ?_
    exact W.iret hx hb hr (fun t ht hW => ⟨⟨nI 0, (u.1, u.2, vp_updL f 0 r9.toInt64), rfl, wP0 hp.1 hp.2.2.1 hp.2.2.2 (by rw [hp.2.1]; exact updL0 (f := f) (x := (nI (S 0 1 / 2)).toInt64)), by rw [ht]; exact hP, hD⟩, hS.F ht⟩) hS.2.2 dL_lift_24

set_option maxHeartbeats 4000000 in
set_option maxRecDepth 100000 in
theorem k_L_turn (l : Launch) (hst : l.stackTraces = false) (D : va_G) (q : Nat → Nat) (k : Nat → ClassId) (r : Nat → Nat) (S Z : Nat → Nat → Nat) (sz o : Nat) (f : Nat → Int64) (x0 : Int32) (x1 : Int32) (b : Bool) (hB : Bd S) : Met l yL_turn wsL_turn ({ frames := 8, cells := 1, slots := 6, locals := 133 } : Room) (va_Pc [.ref (q 0), .int x0, .int x1, .int (nI (bN b)), .ref o] (lB D k (oX k o f ++ wC q k r S Z) sz)) (va_Qi (wPost (cd1 (okT S x0 x1)) S (tuS S (2 * iN x0 + iN x1) (bN b)) Z (fun z => z = Z) ((nI (tuS S (2 * iN x0 + iN x1) (bN b) 10 (2 * iN x0) + tuS S (2 * iN x0 + iN x1) (bN b) 10 (2 * iN x0 + 1))).toInt64)) (fun u t => wE D (va_A (oX k o f ++ wC q k r S Z) sz) (oX k o u.2.2 ++ wC q k r u.1 u.2.1) t) (va_A (oX k o f ++ wC q k r S Z) sz)) 1 6 (va_A (oX k o f ++ wC q k r S Z) sz) := by
  refine va_MetW (cc := cL_turn) (maxL := 6) (ret := some .int) (by decide) rfl ?_
  intro p e s m args below meth c s₁ B hml hv
  obtain ⟨rfl, ⟨⟨hsz, hP, hX, hD0⟩, hT, hZ⟩, hN⟩ := hv
  have hx := B.exec
  have hb := B.bytes
  have hr := B.returns
  have hts := atoms_spec (ws := wsL_turn) B.pre
  have htab := vx_table (x := yL_turn) B (hts _ List.mem_cons_self)
  have hown : s.vm.findClass RL = some m.cls := findClass_of_methodNamed B.named
  have hlocks := B.notSynchronized
  subst hsz
  have hD := hD0.self (sz := s.heap.size)
  generalize hAe : va_A (oX k o f ++ wC q k r S Z) s.heap.size = A at hD hZ ⊢
  have hA : ∀ q : Nat, s.heap.size ≤ q → A q := fun q h => by rw [← hAe]; exact Or.inr h
  have hS : va_S A s.heap s.heap [] := va_S.rf
  have hl := lv_entry ([.ref (q 0), .int x0, .int x1, .int (nI (bN b)), .ref o]) (n := 6) (Nat.le_of_ble_eq_true rfl)
  rw [lg_entry_eq]
  generalize (lg_sl ([.ref (q 0), .int x0, .int x1, .int (nI (bN b)), .ref o]) ++ List.replicate (6 - (lg_sl ([.ref (q 0), .int x0, .int x1, .int (nI (bN b)), .ref o])).length) Slot.unset).toArray = ls at hl ⊢
  have hl : lv_has ls 6 [(0, .ref (q 0)), (1, .int x0), (2, .int x1), (3, .int (nI (bN b))), (4, .ref o)] := hl
  refine lv_aload hx hb dL_turn_0 (lv_at hl 4 rfl) ?_
  refine lv_iconst (v := nI 0) hx hb dL_turn_2 (by decide) ?_
  refine lv_aload_n hx hb dL_turn_3 rfl (lv_at hl 0 rfl) ?_
  refine lv_iload_n hx hb dL_turn_4 rfl (lv_at hl 1 rfl) ?_
  refine lv_iload_n hx hb dL_turn_5 rfl (lv_at hl 2 rfl) ?_
  refine lv_iload_n hx hb dL_turn_6 rfl (lv_at hl 3 rfl) ?_
  refine lx_Vi (Wr := oX k o f) (Wd := wC q k r S Z) (As := [.int x0, .int x1, .int (nI (bN b))]) (rest := [.int (nI 0), .ref o]) ⟨hx, hb, hml, hown, hts⟩ (k_X2_turn l hst D q k r S Z _ x0 x1 b hB) (cwV 3 hts gL_turn_X2_turn rfl rfl rfl (by decide +kernel) ⟨by decide, by decide⟩) hX hT hZ hP hD hS hA (q0 := 0) rfl rfl rfl hl.1 rfl (Nat.le_of_ble_eq_true rfl) dL_turn_7 ⟨(Nat.le_of_ble_eq_true rfl), (Nat.le_of_ble_eq_true rfl)⟩ (fun E u ce q9 H locs _ hxe hP hD hS hce hcv hcl => ?_) (fun r9 u H locs hp hP hD hS => ?_)
  · obtain ⟨rfl, hcd⟩ := hxe
    refine vx_catch (own := RL) (name := eIA) hown [] ⟨0, 12, 15, 13⟩ [] htab (fun z hz => nomatch hz) (by decide) (by decide) (hts (.classLink RL 13 eIA) (by decide +kernel)) (va_Nw.use rfl (hT.2.1 eIA (by decide +kernel))) hce hcv hcl ?_
    refine lv_astore hx hb dL_turn_15 hl (by decide) rfl (fun ls hl => ?_)
    refine lv_iconst (v := nI 1) hx hb dL_turn_17 (by decide) ?_
    refine W.widen (k := 1) (n := 6) (Nat.le_of_ble_eq_true rfl) (Nat.le_of_ble_eq_true rfl) ?_
    exact W.iret hx hb hr (fun t ht hW => ⟨⟨nI 1, (S, Z, f), rfl, wPn hcd (by decide), by rw [ht]; exact hP, hD⟩, hS.F ht⟩) hS.2.2 dL_turn_18
  · skip
    refine lv_i2l (v := r9.toInt64) hx hb dL_turn_10 rfl ?_
    refine va_last hx hb hX.1 hP hD hS 0 3 rfl rfl (vp_in_nI (by decide) (by decide)) dL_turn_11 (fun H locs hP hD hS => ?_)
    rw [nI_clamp (n := 0) (by decide)] at hP hD
    have hP : va_P D vwCl (oX k o (vp_updL f 0 r9.toInt64) ++ wC q k r u.1 u.2) H := hP
    have hD : va_D A (oX k o (vp_updL f 0 r9.toInt64) ++ wC q k r u.1 u.2) := hD
    refine lv_goto (tgt := 19) hx hb dL_turn_12 (by decide) ?_
    refine lv_iconst (v := nI 0) hx hb dL_turn_19 (by decide) ?_
    refine W.widen (k := 1) (n := 6) (Nat.le_of_ble_eq_true rfl) (Nat.le_of_ble_eq_true rfl) ?_
    exact W.iret hx hb hr (fun t ht hW => ⟨⟨nI 0, (u.1, u.2, vp_updL f 0 r9.toInt64), rfl, wP0 hp.1 hp.2.2.1 hp.2.2.2 (by rw [hp.2.1]; exact updL0 (f := f) (x := (nI (tuS S (2 * iN x0 + iN x1) (bN b) 10 (2 * iN x0) + tuS S (2 * iN x0 + iN x1) (bN b) 10 (2 * iN x0 + 1))).toInt64)), by rw [ht]; exact hP, hD⟩, hS.F ht⟩) hS.2.2 dL_turn_20

set_option maxHeartbeats 4000000 in
set_option maxRecDepth 100000 in
theorem k_L_width (l : Launch) (hst : l.stackTraces = false) (D : va_G) (q : Nat → Nat) (k : Nat → ClassId) (r : Nat → Nat) (S Z : Nat → Nat → Nat) (sz o : Nat) (f : Nat → Int64) (x0 : Int32) (x1 : Int32) (hB : Bd S) : Met l yL_width wsL_width ({ frames := 8, cells := 2, slots := 12, locals := 133 } : Room) (va_Pc [.ref (q 0), .int x0, .int x1] (lB D k (oX k o f ++ wC q k r S Z) sz)) (va_Qi (wPost (cd1 (okW S x0 x1)) S (wiS S (iN x0) (iN x1)) Z (fun z => z = Z) ((f 0))) (fun u t => wE D (va_A (oX k o f ++ wC q k r S Z) sz) (oX k o u.2.2 ++ wC q k r u.1 u.2.1) t) (va_A (oX k o f ++ wC q k r S Z) sz)) 2 12 (va_A (oX k o f ++ wC q k r S Z) sz) := by
  refine va_MetW (cc := cL_width) (maxL := 4) (ret := some .int) (by decide) rfl ?_
  intro p e s m args below meth c s₁ B hml hv
  obtain ⟨rfl, ⟨⟨hsz, hP, hX, hD0⟩, hT, hZ⟩, hN⟩ := hv
  have hx := B.exec
  have hb := B.bytes
  have hr := B.returns
  have hts := atoms_spec (ws := wsL_width) B.pre
  have htab := vx_table (x := yL_width) B (hts _ List.mem_cons_self)
  have hown : s.vm.findClass RL = some m.cls := findClass_of_methodNamed B.named
  have hlocks := B.notSynchronized
  subst hsz
  have hD := hD0.self (sz := s.heap.size)
  generalize hAe : va_A (oX k o f ++ wC q k r S Z) s.heap.size = A at hD hZ ⊢
  have hA : ∀ q : Nat, s.heap.size ≤ q → A q := fun q h => by rw [← hAe]; exact Or.inr h
  have hS : va_S A s.heap s.heap [] := va_S.rf
  have hl := lv_entry ([.ref (q 0), .int x0, .int x1]) (n := 4) (Nat.le_of_ble_eq_true rfl)
  rw [lg_entry_eq]
  generalize (lg_sl ([.ref (q 0), .int x0, .int x1]) ++ List.replicate (4 - (lg_sl ([.ref (q 0), .int x0, .int x1])).length) Slot.unset).toArray = ls at hl ⊢
  have hl : lv_has ls 4 [(0, .ref (q 0)), (1, .int x0), (2, .int x1)] := hl
  refine lv_aload_n hx hb dL_width_0 rfl (lv_at hl 0 rfl) ?_
  refine lv_iload_n hx hb dL_width_1 rfl (lv_at hl 1 rfl) ?_
  refine lv_iload_n hx hb dL_width_2 rfl (lv_at hl 2 rfl) ?_
  refine lx_Vv (Wr := oX k o f) (Wd := wC q k r S Z) (As := [.int x0, .int x1]) (rest := []) ⟨hx, hb, hml, hown, hts⟩ (k_X2_width l hst D q k r S Z _ x0 x1 hB) (cwV 2 hts gL_width_X2_width rfl rfl rfl (by decide +kernel) ⟨by decide, by decide⟩) hX hT hZ hP hD hS hA (q0 := 0) rfl rfl rfl hl.1 rfl (Nat.le_of_ble_eq_true rfl) dL_width_3 ⟨(Nat.le_of_ble_eq_true rfl), (Nat.le_of_ble_eq_true rfl)⟩ (fun E u ce q9 H locs _ hxe hP hD hS hce hcv hcl => ?_) (fun u H locs hp hP hD hS => ?_)
  · obtain ⟨rfl, hcd⟩ := hxe
    refine vx_catch (own := RL) (name := eIA) hown [] ⟨0, 6, 9, 13⟩ [] htab (fun z hz => nomatch hz) (by decide) (by decide) (hts (.classLink RL 13 eIA) (by decide +kernel)) (va_Nw.use rfl (hT.2.1 eIA (by decide +kernel))) hce hcv hcl ?_
    refine lv_astore_n hx hb dL_width_9 rfl hl (by decide) rfl (fun ls hl => ?_)
    refine lv_iconst (v := nI 1) hx hb dL_width_10 (by decide) ?_
    refine W.widen (k := 2) (n := 12) (Nat.le_of_ble_eq_true rfl) (Nat.le_of_ble_eq_true rfl) ?_
    exact W.iret hx hb hr (fun t ht hW => ⟨⟨nI 1, (S, Z, f), rfl, wPn hcd (by decide), by rw [ht]; exact hP, hD⟩, hS.F ht⟩) hS.2.2 dL_width_11
  · skip
    refine lv_goto (tgt := 12) hx hb dL_width_6 (by decide) ?_
    refine lv_iconst (v := nI 0) hx hb dL_width_12 (by decide) ?_
    refine W.widen (k := 2) (n := 12) (Nat.le_of_ble_eq_true rfl) (Nat.le_of_ble_eq_true rfl) ?_
    exact W.iret hx hb hr (fun t ht hW => ⟨⟨nI 0, (u.1, u.2, f), rfl, wP0 hp.1 hp.2.1 hp.2.2 rfl, by rw [ht]; exact hP, hD⟩, hS.F ht⟩) hS.2.2 dL_width_13

set_option maxHeartbeats 4000000 in
set_option maxRecDepth 100000 in
theorem k_L_zone (l : Launch) (hst : l.stackTraces = false) (D : va_G) (q : Nat → Nat) (k : Nat → ClassId) (r : Nat → Nat) (S Z : Nat → Nat → Nat) (sz o : Nat) (f : Nat → Int64) (x0 : Int32) (x1 : Int32) (b : Bool) (hB : Bd S) : Met l yL_zone wsL_zone ({ frames := 8, cells := 2, slots := 12, locals := 134 } : Room) (va_Pc [.ref (q 0), .int x0, .int x1, .int (nI (bN b)), .ref o] (lB D k (oX k o f ++ wC q k r S Z) sz)) (va_Qi (wPost (cd1 (okZ S x0 x1)) S (zoS S (iN x0) (iN x1) b) Z (fun z => z = Z) ((nI (pop (wb (S 6 (iN x0)) (iN x1) b))).toInt64)) (fun u t => wE D (va_A (oX k o f ++ wC q k r S Z) sz) (oX k o u.2.2 ++ wC q k r u.1 u.2.1) t) (va_A (oX k o f ++ wC q k r S Z) sz)) 2 12 (va_A (oX k o f ++ wC q k r S Z) sz) := by
  refine va_MetW (cc := cL_zone) (maxL := 6) (ret := some .int) (by decide) rfl ?_
  intro p e s m args below meth c s₁ B hml hv
  obtain ⟨rfl, ⟨⟨hsz, hP, hX, hD0⟩, hT, hZ⟩, hN⟩ := hv
  have hx := B.exec
  have hb := B.bytes
  have hr := B.returns
  have hts := atoms_spec (ws := wsL_zone) B.pre
  have htab := vx_table (x := yL_zone) B (hts _ List.mem_cons_self)
  have hown : s.vm.findClass RL = some m.cls := findClass_of_methodNamed B.named
  have hlocks := B.notSynchronized
  subst hsz
  have hD := hD0.self (sz := s.heap.size)
  generalize hAe : va_A (oX k o f ++ wC q k r S Z) s.heap.size = A at hD hZ ⊢
  have hA : ∀ q : Nat, s.heap.size ≤ q → A q := fun q h => by rw [← hAe]; exact Or.inr h
  have hS : va_S A s.heap s.heap [] := va_S.rf
  have hl := lv_entry ([.ref (q 0), .int x0, .int x1, .int (nI (bN b)), .ref o]) (n := 6) (Nat.le_of_ble_eq_true rfl)
  rw [lg_entry_eq]
  generalize (lg_sl ([.ref (q 0), .int x0, .int x1, .int (nI (bN b)), .ref o]) ++ List.replicate (6 - (lg_sl ([.ref (q 0), .int x0, .int x1, .int (nI (bN b)), .ref o])).length) Slot.unset).toArray = ls at hl ⊢
  have hl : lv_has ls 6 [(0, .ref (q 0)), (1, .int x0), (2, .int x1), (3, .int (nI (bN b))), (4, .ref o)] := hl
  refine lv_aload hx hb dL_zone_0 (lv_at hl 4 rfl) ?_
  refine lv_iconst (v := nI 0) hx hb dL_zone_2 (by decide) ?_
  refine lv_aload_n hx hb dL_zone_3 rfl (lv_at hl 0 rfl) ?_
  refine lv_iload_n hx hb dL_zone_4 rfl (lv_at hl 1 rfl) ?_
  refine lv_iload_n hx hb dL_zone_5 rfl (lv_at hl 2 rfl) ?_
  refine lv_iload_n hx hb dL_zone_6 rfl (lv_at hl 3 rfl) ?_
  refine lx_Vi (Wr := oX k o f) (Wd := wC q k r S Z) (As := [.int x0, .int x1, .int (nI (bN b))]) (rest := [.int (nI 0), .ref o]) ⟨hx, hb, hml, hown, hts⟩ (k_X2_zone l hst D q k r S Z _ x0 x1 b hB) (cwV 3 hts gL_zone_X2_zone rfl rfl rfl (by decide +kernel) ⟨by decide, by decide⟩) hX hT hZ hP hD hS hA (q0 := 0) rfl rfl rfl hl.1 rfl (Nat.le_of_ble_eq_true rfl) dL_zone_7 ⟨(Nat.le_of_ble_eq_true rfl), (Nat.le_of_ble_eq_true rfl)⟩ (fun E u ce q9 H locs _ hxe hP hD hS hce hcv hcl => ?_) (fun r9 u H locs hp hP hD hS => ?_)
  · obtain ⟨rfl, hcd⟩ := hxe
    refine vx_catch (own := RL) (name := eIA) hown [] ⟨0, 12, 15, 13⟩ [] htab (fun z hz => nomatch hz) (by decide) (by decide) (hts (.classLink RL 13 eIA) (by decide +kernel)) (va_Nw.use rfl (hT.2.1 eIA (by decide +kernel))) hce hcv hcl ?_
    refine lv_astore hx hb dL_zone_15 hl (by decide) rfl (fun ls hl => ?_)
    refine lv_iconst (v := nI 1) hx hb dL_zone_17 (by decide) ?_
    refine W.widen (k := 2) (n := 12) (Nat.le_of_ble_eq_true rfl) (Nat.le_of_ble_eq_true rfl) ?_
    exact W.iret hx hb hr (fun t ht hW => ⟨⟨nI 1, (S, Z, f), rfl, wPn hcd (by decide), by rw [ht]; exact hP, hD⟩, hS.F ht⟩) hS.2.2 dL_zone_18
  · skip
    refine lv_i2l (v := r9.toInt64) hx hb dL_zone_10 rfl ?_
    refine va_last hx hb hX.1 hP hD hS 0 3 rfl rfl (vp_in_nI (by decide) (by decide)) dL_zone_11 (fun H locs hP hD hS => ?_)
    rw [nI_clamp (n := 0) (by decide)] at hP hD
    have hP : va_P D vwCl (oX k o (vp_updL f 0 r9.toInt64) ++ wC q k r u.1 u.2) H := hP
    have hD : va_D A (oX k o (vp_updL f 0 r9.toInt64) ++ wC q k r u.1 u.2) := hD
    refine lv_goto (tgt := 19) hx hb dL_zone_12 (by decide) ?_
    refine lv_iconst (v := nI 0) hx hb dL_zone_19 (by decide) ?_
    refine W.widen (k := 2) (n := 12) (Nat.le_of_ble_eq_true rfl) (Nat.le_of_ble_eq_true rfl) ?_
    exact W.iret hx hb hr (fun t ht hW => ⟨⟨nI 0, (u.1, u.2, vp_updL f 0 r9.toInt64), rfl, wP0 hp.1 hp.2.2.1 hp.2.2.2 (by rw [hp.2.1]; exact updL0 (f := f) (x := (nI (pop (wb (S 6 (iN x0)) (iN x1) b))).toInt64)), by rw [ht]; exact hP, hD⟩, hS.F ht⟩) hS.2.2 dL_zone_20

set_option maxHeartbeats 4000000 in
set_option maxRecDepth 100000 in
theorem k_L_closed (l : Launch) (hst : l.stackTraces = false) (D : va_G) (q : Nat → Nat) (k : Nat → ClassId) (r : Nat → Nat) (S Z : Nat → Nat → Nat) (sz o : Nat) (f : Nat → Int64) (x0 : Int32) (b : Bool) (hB : Bd S) : Met l yL_closed wsL_closed ({ frames := 8, cells := 1, slots := 6, locals := 133 } : Room) (va_Pc [.ref (q 0), .int x0, .int (nI (bN b)), .ref o] (lB D k (oX k o f ++ wC q k r S Z) sz)) (va_Qi (wPost (cd1 (isPc S x0)) S (clS S (iN x0) (bN b)) Z (fun z => z = Z) ((nI (sm (clS S (iN x0) (bN b) 5) 0 (S 0 0))).toInt64)) (fun u t => wE D (va_A (oX k o f ++ wC q k r S Z) sz) (oX k o u.2.2 ++ wC q k r u.1 u.2.1) t) (va_A (oX k o f ++ wC q k r S Z) sz)) 1 6 (va_A (oX k o f ++ wC q k r S Z) sz) := by
  refine va_MetW (cc := cL_closed) (maxL := 5) (ret := some .int) (by decide) rfl ?_
  intro p e s m args below meth c s₁ B hml hv
  obtain ⟨rfl, ⟨⟨hsz, hP, hX, hD0⟩, hT, hZ⟩, hN⟩ := hv
  have hx := B.exec
  have hb := B.bytes
  have hr := B.returns
  have hts := atoms_spec (ws := wsL_closed) B.pre
  have htab := vx_table (x := yL_closed) B (hts _ List.mem_cons_self)
  have hown : s.vm.findClass RL = some m.cls := findClass_of_methodNamed B.named
  have hlocks := B.notSynchronized
  subst hsz
  have hD := hD0.self (sz := s.heap.size)
  generalize hAe : va_A (oX k o f ++ wC q k r S Z) s.heap.size = A at hD hZ ⊢
  have hA : ∀ q : Nat, s.heap.size ≤ q → A q := fun q h => by rw [← hAe]; exact Or.inr h
  have hS : va_S A s.heap s.heap [] := va_S.rf
  have hl := lv_entry ([.ref (q 0), .int x0, .int (nI (bN b)), .ref o]) (n := 5) (Nat.le_of_ble_eq_true rfl)
  rw [lg_entry_eq]
  generalize (lg_sl ([.ref (q 0), .int x0, .int (nI (bN b)), .ref o]) ++ List.replicate (5 - (lg_sl ([.ref (q 0), .int x0, .int (nI (bN b)), .ref o])).length) Slot.unset).toArray = ls at hl ⊢
  have hl : lv_has ls 5 [(0, .ref (q 0)), (1, .int x0), (2, .int (nI (bN b))), (3, .ref o)] := hl
  refine lv_aload_n hx hb dL_closed_0 rfl (lv_at hl 3 rfl) ?_
  refine lv_iconst (v := nI 0) hx hb dL_closed_1 (by decide) ?_
  refine lv_aload_n hx hb dL_closed_2 rfl (lv_at hl 0 rfl) ?_
  refine lv_iload_n hx hb dL_closed_3 rfl (lv_at hl 1 rfl) ?_
  refine lv_iload_n hx hb dL_closed_4 rfl (lv_at hl 2 rfl) ?_
  refine lx_Vi (Wr := oX k o f) (Wd := wC q k r S Z) (As := [.int x0, .int (nI (bN b))]) (rest := [.int (nI 0), .ref o]) ⟨hx, hb, hml, hown, hts⟩ (k_X2_closed l hst D q k r S Z _ x0 b hB) (cwV 2 hts gL_closed_X2_closed rfl rfl rfl (by decide +kernel) ⟨by decide, by decide⟩) hX hT hZ hP hD hS hA (q0 := 0) rfl rfl rfl hl.1 rfl (Nat.le_of_ble_eq_true rfl) dL_closed_5 ⟨(Nat.le_of_ble_eq_true rfl), (Nat.le_of_ble_eq_true rfl)⟩ (fun E u ce q9 H locs _ hxe hP hD hS hce hcv hcl => ?_) (fun r9 u H locs hp hP hD hS => ?_)
  · obtain ⟨rfl, hcd⟩ := hxe
    refine vx_catch (own := RL) (name := eIA) hown [] ⟨0, 10, 13, 13⟩ [] htab (fun z hz => nomatch hz) (by decide) (by decide) (hts (.classLink RL 13 eIA) (by decide +kernel)) (va_Nw.use rfl (hT.2.1 eIA (by decide +kernel))) hce hcv hcl ?_
    refine lv_astore hx hb dL_closed_13 hl (by decide) rfl (fun ls hl => ?_)
    refine lv_iconst (v := nI 1) hx hb dL_closed_15 (by decide) ?_
    refine W.widen (k := 1) (n := 6) (Nat.le_of_ble_eq_true rfl) (Nat.le_of_ble_eq_true rfl) ?_
    exact W.iret hx hb hr (fun t ht hW => ⟨⟨nI 1, (S, Z, f), rfl, wPn hcd (by decide), by rw [ht]; exact hP, hD⟩, hS.F ht⟩) hS.2.2 dL_closed_16
  · skip
    refine lv_i2l (v := r9.toInt64) hx hb dL_closed_8 rfl ?_
    refine va_last hx hb hX.1 hP hD hS 0 3 rfl rfl (vp_in_nI (by decide) (by decide)) dL_closed_9 (fun H locs hP hD hS => ?_)
    rw [nI_clamp (n := 0) (by decide)] at hP hD
    have hP : va_P D vwCl (oX k o (vp_updL f 0 r9.toInt64) ++ wC q k r u.1 u.2) H := hP
    have hD : va_D A (oX k o (vp_updL f 0 r9.toInt64) ++ wC q k r u.1 u.2) := hD
    refine lv_goto (tgt := 17) hx hb dL_closed_10 (by decide) ?_
    refine lv_iconst (v := nI 0) hx hb dL_closed_17 (by decide) ?_
    refine W.widen (k := 1) (n := 6) (Nat.le_of_ble_eq_true rfl) (Nat.le_of_ble_eq_true rfl) ?_
    exact W.iret hx hb hr (fun t ht hW => ⟨⟨nI 0, (u.1, u.2, vp_updL f 0 r9.toInt64), rfl, wP0 hp.1 hp.2.2.1 hp.2.2.2 (by rw [hp.2.1]; exact updL0 (f := f) (x := (nI (sm (clS S (iN x0) (bN b) 5) 0 (S 0 0))).toInt64)), by rw [ht]; exact hP, hD⟩, hS.F ht⟩) hS.2.2 dL_closed_18
