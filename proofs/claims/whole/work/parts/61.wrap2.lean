set_option maxHeartbeats 4000000 in
set_option maxRecDepth 100000 in
theorem k_L_robot (l : Launch) (hst : l.stackTraces = false) (D : va_G) (q : Nat → Nat) (k : Nat → ClassId) (r : Nat → Nat) (S Z : Nat → Nat → Nat) (sz o : Nat) (f : Nat → Int64) (x0 : Int32) (hB : Bd S) : Met l yL_robot wsL_robot ({ frames := 8, cells := 2, slots := 12, locals := 131 } : Room) (va_Pc [.ref (q 0), .int x0, .ref o] (lB D k (oX k o f ++ wC q k r S Z) sz)) (va_Qi (wPost (cdR S x0) S (roS S (iN x0)) Z (fun z => z = Z) ((pI (if fitsW S (iN x0) = true then S 0 2 + 1 else 0)).toInt64)) (fun u t => wE D (va_A (oX k o f ++ wC q k r S Z) sz) (oX k o u.2.2 ++ wC q k r u.1 u.2.1) t) (va_A (oX k o f ++ wC q k r S Z) sz)) 2 12 (va_A (oX k o f ++ wC q k r S Z) sz) := by
  refine va_MetW (cc := cL_robot) (maxL := 4) (ret := some .int) (by decide) rfl ?_
  intro p e s m args below meth c s₁ B hml hv
  obtain ⟨rfl, ⟨⟨hsz, hP, hX, hD0⟩, hT, hZ⟩, hN⟩ := hv
  have hx := B.exec
  have hb := B.bytes
  have hr := B.returns
  have hts := atoms_spec (ws := wsL_robot) B.pre
  have htab := vx_table (x := yL_robot) B (hts _ List.mem_cons_self)
  have hown : s.vm.findClass RL = some m.cls := findClass_of_methodNamed B.named
  have hlocks := B.notSynchronized
  subst hsz
  have hD := hD0.self (sz := s.heap.size)
  generalize hAe : va_A (oX k o f ++ wC q k r S Z) s.heap.size = A at hD hZ ⊢
  have hA : ∀ q : Nat, s.heap.size ≤ q → A q := fun q h => by rw [← hAe]; exact Or.inr h
  have hS : va_S A s.heap s.heap [] := va_S.rf
  have hl := lv_entry ([.ref (q 0), .int x0, .ref o]) (n := 4) (Nat.le_of_ble_eq_true rfl)
  rw [lg_entry_eq]
  generalize (lg_sl ([.ref (q 0), .int x0, .ref o]) ++ List.replicate (4 - (lg_sl ([.ref (q 0), .int x0, .ref o])).length) Slot.unset).toArray = ls at hl ⊢
  have hl : lv_has ls 4 [(0, .ref (q 0)), (1, .int x0), (2, .ref o)] := hl
  refine lv_aload_n hx hb dL_robot_0 rfl (lv_at hl 2 rfl) ?_
  refine lv_iconst (v := nI 0) hx hb dL_robot_1 (by decide) ?_
  refine lv_aload_n hx hb dL_robot_2 rfl (lv_at hl 0 rfl) ?_
  refine lv_iload_n hx hb dL_robot_3 rfl (lv_at hl 1 rfl) ?_
  refine lx_Vi (Wr := oX k o f) (Wd := wC q k r S Z) (As := [.int x0]) (rest := [.int (nI 0), .ref o]) ⟨hx, hb, hml, hown, hts⟩ (k_X2_robot l hst D q k r S Z _ x0 hB) (cwV 1 hts gL_robot_X2_robot rfl rfl rfl (by decide +kernel) ⟨by decide, by decide⟩) hX hT hZ hP hD hS hA (q0 := 0) rfl rfl rfl hl.1 rfl (Nat.le_of_ble_eq_true rfl) dL_robot_4 ⟨(Nat.le_of_ble_eq_true rfl), (Nat.le_of_ble_eq_true rfl)⟩ (fun E u ce q9 H locs _ hxe hP hD hS hce hcv hcl => ?_) (fun r9 u H locs hp hP hD hS => ?_)
  · rcases hxe with ⟨rfl, hcd⟩ | ⟨rfl, hcd⟩
    · skip
      refine vx_catch (own := RL) (name := eIA) hown [] ⟨0, 9, 12, 13⟩ [⟨0, 9, 15, 15⟩] htab (fun z hz => nomatch hz) (by decide) (by decide) (hts (.classLink RL 13 eIA) (by decide +kernel)) (va_Nw.use rfl (hT.2.1 eIA (by decide +kernel))) hce hcv hcl ?_
      refine lv_astore_n hx hb dL_robot_12 rfl hl (by decide) rfl (fun ls hl => ?_)
      refine lv_iconst (v := nI 1) hx hb dL_robot_13 (by decide) ?_
      refine W.widen (k := 2) (n := 12) (Nat.le_of_ble_eq_true rfl) (Nat.le_of_ble_eq_true rfl) ?_
      exact W.iret hx hb hr (fun t ht hW => ⟨⟨nI 1, (S, Z, f), rfl, wPn hcd (by decide), by rw [ht]; exact hP, hD⟩, hS.F ht⟩) hS.2.2 dL_robot_14
    · skip
      refine vx_catch (own := RL) (name := eUO) hown [⟨0, 9, 12, 13⟩] ⟨0, 9, 15, 15⟩ [] htab (al_1 (Or.inr ⟨by decide, eIA, (hts (.classLink RL 13 eIA) (by decide +kernel)), hN.1 (eUO, eIA) (by decide +kernel)⟩)) (by decide) (by decide) (hts (.classLink RL 15 eUO) (by decide +kernel)) (va_Nw.use rfl (hT.2.1 eUO (by decide +kernel))) hce hcv hcl ?_
      refine lv_astore_n hx hb dL_robot_15 rfl hl (by decide) rfl (fun ls hl => ?_)
      refine lv_iconst (v := nI 2) hx hb dL_robot_16 (by decide) ?_
      refine W.widen (k := 2) (n := 12) (Nat.le_of_ble_eq_true rfl) (Nat.le_of_ble_eq_true rfl) ?_
      exact W.iret hx hb hr (fun t ht hW => ⟨⟨nI 2, (S, Z, f), rfl, wPn hcd (by decide), by rw [ht]; exact hP, hD⟩, hS.F ht⟩) hS.2.2 dL_robot_17
  · skip
    refine lv_i2l (v := r9.toInt64) hx hb dL_robot_7 rfl ?_
    refine va_last hx hb hX.1 hP hD hS 0 3 rfl rfl (vp_in_nI (by decide) (by decide)) dL_robot_8 (fun H locs hP hD hS => ?_)
    rw [nI_clamp (n := 0) (by decide)] at hP hD
    have hP : va_P D vwCl (oX k o (vp_updL f 0 r9.toInt64) ++ wC q k r u.1 u.2) H := hP
    have hD : va_D A (oX k o (vp_updL f 0 r9.toInt64) ++ wC q k r u.1 u.2) := hD
    refine lv_goto (tgt := 18) hx hb dL_robot_9 (by decide) ?_
    refine lv_iconst (v := nI 0) hx hb dL_robot_18 (by decide) ?_
    refine W.widen (k := 2) (n := 12) (Nat.le_of_ble_eq_true rfl) (Nat.le_of_ble_eq_true rfl) ?_
    exact W.iret hx hb hr (fun t ht hW => ⟨⟨nI 0, (u.1, u.2, vp_updL f 0 r9.toInt64), rfl, wP0 hp.1 hp.2.2.1 hp.2.2.2 (by rw [hp.2.1]; exact updL0 (f := f) (x := (pI (if fitsW S (iN x0) = true then S 0 2 + 1 else 0)).toInt64)), by rw [ht]; exact hP, hD⟩, hS.F ht⟩) hS.2.2 dL_robot_19

set_option maxHeartbeats 4000000 in
set_option maxRecDepth 100000 in
theorem k_L_way (l : Launch) (hst : l.stackTraces = false) (D : va_G) (q : Nat → Nat) (k : Nat → ClassId) (r : Nat → Nat) (S Z : Nat → Nat → Nat) (sz o : Nat) (f : Nat → Int64) (x0 : Int32) (x1 : Int32) (x2 : Int32) (x3 : Int32) (hB : Bd S) (hZ0 : ∀ p, Z 0 p ≤ 1) (hZ2 : ∀ p, Z 2 p ≤ 1) (hGw : Gw S) : Met l yL_way wsL_way ({ frames := 9, cells := 3, slots := 18, locals := 159 } : Room) (va_Pc [.ref (q 0), .int x0, .int x1, .int x2, .int x3, .ref o] (lB D k (oX k o f ++ wC q k r S Z) sz)) (va_Qi (wPost (cd1 (okD S x0 x1 x2 x3)) S (waS S (S 11 (iN x0)) (iN x3) (iN x1) (iN x2)) Z (fun z => ZR Z z) ((rI (secs S (S 11 (iN x0)) (iN x3) (iN x1) (iN x2))).toInt64)) (fun u t => wE D (va_A (oX k o f ++ wC q k r S Z) sz) (oX k o u.2.2 ++ wC q k r u.1 u.2.1) t) (va_A (oX k o f ++ wC q k r S Z) sz)) 3 18 (va_A (oX k o f ++ wC q k r S Z) sz) := by
  refine va_MetW (cc := cL_way) (maxL := 7) (ret := some .int) (by decide) rfl ?_
  intro p e s m args below meth c s₁ B hml hv
  obtain ⟨rfl, ⟨⟨hsz, hP, hX, hD0⟩, hT, hZ⟩, hN⟩ := hv
  have hx := B.exec
  have hb := B.bytes
  have hr := B.returns
  have hts := atoms_spec (ws := wsL_way) B.pre
  have htab := vx_table (x := yL_way) B (hts _ List.mem_cons_self)
  have hown : s.vm.findClass RL = some m.cls := findClass_of_methodNamed B.named
  have hlocks := B.notSynchronized
  subst hsz
  have hD := hD0.self (sz := s.heap.size)
  generalize hAe : va_A (oX k o f ++ wC q k r S Z) s.heap.size = A at hD hZ ⊢
  have hA : ∀ q : Nat, s.heap.size ≤ q → A q := fun q h => by rw [← hAe]; exact Or.inr h
  have hS : va_S A s.heap s.heap [] := va_S.rf
  have hl := lv_entry ([.ref (q 0), .int x0, .int x1, .int x2, .int x3, .ref o]) (n := 7) (Nat.le_of_ble_eq_true rfl)
  rw [lg_entry_eq]
  generalize (lg_sl ([.ref (q 0), .int x0, .int x1, .int x2, .int x3, .ref o]) ++ List.replicate (7 - (lg_sl ([.ref (q 0), .int x0, .int x1, .int x2, .int x3, .ref o])).length) Slot.unset).toArray = ls at hl ⊢
  have hl : lv_has ls 7 [(0, .ref (q 0)), (1, .int x0), (2, .int x1), (3, .int x2), (4, .int x3), (5, .ref o)] := hl
  refine lv_aload hx hb dL_way_0 (lv_at hl 5 rfl) ?_
  refine lv_iconst (v := nI 0) hx hb dL_way_2 (by decide) ?_
  refine lv_aload_n hx hb dL_way_3 rfl (lv_at hl 0 rfl) ?_
  refine lv_iload_n hx hb dL_way_4 rfl (lv_at hl 1 rfl) ?_
  refine lv_iload_n hx hb dL_way_5 rfl (lv_at hl 2 rfl) ?_
  refine lv_iload_n hx hb dL_way_6 rfl (lv_at hl 3 rfl) ?_
  refine lv_iload hx hb dL_way_7 (lv_at hl 4 rfl) ?_
  refine lx_Vi (Wr := oX k o f) (Wd := wC q k r S Z) (As := [.int x0, .int x1, .int x2, .int x3]) (rest := [.int (nI 0), .ref o]) ⟨hx, hb, hml, hown, hts⟩ (k_X2_way l hst D q k r S Z _ x0 x1 x2 x3 hB hZ0 hZ2 hGw) (cwV 4 hts gL_way_X2_way rfl rfl rfl (by decide +kernel) ⟨by decide, by decide⟩) hX hT hZ hP hD hS hA (q0 := 0) rfl rfl rfl hl.1 rfl (Nat.le_of_ble_eq_true rfl) dL_way_9 ⟨(Nat.le_of_ble_eq_true rfl), (Nat.le_of_ble_eq_true rfl)⟩ (fun E u ce q9 H locs _ hxe hP hD hS hce hcv hcl => ?_) (fun r9 u H locs hp hP hD hS => ?_)
  · obtain ⟨rfl, hcd⟩ := hxe
    refine vx_catch (own := RL) (name := eIA) hown [] ⟨0, 14, 17, 13⟩ [] htab (fun z hz => nomatch hz) (by decide) (by decide) (hts (.classLink RL 13 eIA) (by decide +kernel)) (va_Nw.use rfl (hT.2.1 eIA (by decide +kernel))) hce hcv hcl ?_
    refine lv_astore hx hb dL_way_17 hl (by decide) rfl (fun ls hl => ?_)
    refine lv_iconst (v := nI 1) hx hb dL_way_19 (by decide) ?_
    refine W.widen (k := 3) (n := 18) (Nat.le_of_ble_eq_true rfl) (Nat.le_of_ble_eq_true rfl) ?_
    exact W.iret hx hb hr (fun t ht hW => ⟨⟨nI 1, (S, Z, f), rfl, wPn hcd (by decide), by rw [ht]; exact hP, hD⟩, hS.F ht⟩) hS.2.2 dL_way_20
  · skip
    refine lv_i2l (v := r9.toInt64) hx hb dL_way_12 rfl ?_
    refine va_last hx hb hX.1 hP hD hS 0 3 rfl rfl (vp_in_nI (by decide) (by decide)) dL_way_13 (fun H locs hP hD hS => ?_)
    rw [nI_clamp (n := 0) (by decide)] at hP hD
    have hP : va_P D vwCl (oX k o (vp_updL f 0 r9.toInt64) ++ wC q k r u.1 u.2) H := hP
    have hD : va_D A (oX k o (vp_updL f 0 r9.toInt64) ++ wC q k r u.1 u.2) := hD
    refine lv_goto (tgt := 21) hx hb dL_way_14 (by decide) ?_
    refine lv_iconst (v := nI 0) hx hb dL_way_21 (by decide) ?_
    refine W.widen (k := 3) (n := 18) (Nat.le_of_ble_eq_true rfl) (Nat.le_of_ble_eq_true rfl) ?_
    exact W.iret hx hb hr (fun t ht hW => ⟨⟨nI 0, (u.1, u.2, vp_updL f 0 r9.toInt64), rfl, wP0 hp.1 hp.2.2.1 hp.2.2.2 (by rw [hp.2.1]; exact updL0 (f := f) (x := (rI (secs S (S 11 (iN x0)) (iN x3) (iN x1) (iN x2))).toInt64)), by rw [ht]; exact hP, hD⟩, hS.F ht⟩) hS.2.2 dL_way_22

set_option maxHeartbeats 4000000 in
set_option maxRecDepth 100000 in
theorem k_L_same (l : Launch) (hst : l.stackTraces = false) (D : va_G) (q : Nat → Nat) (k : Nat → ClassId) (r : Nat → Nat) (S Z : Nat → Nat → Nat) (sz o : Nat) (f : Nat → Int64) (x0 : Int32) (x1 : Int32) (x2 : Int32) (x3 : Int32) (hB : Bd S) (hZ0 : ∀ p, Z 0 p ≤ 1) (hZ2 : ∀ p, Z 2 p ≤ 1) (hGw : Gw S) : Met l yL_same wsL_same ({ frames := 9, cells := 3, slots := 18, locals := 161 } : Room) (va_Pc [.ref (q 0), .int x0, .int x1, .int x2, .int x3, .ref o] (lB D k (oX k o f ++ wC q k r S Z) sz)) (va_Qi (wPost (cd1 (okD S x0 x1 x2 x3)) S (S) Z (fun z => ZR Z z) (bL (decide (secs S (S 11 (iN x0)) (iN x3) (iN x1) (iN x2) = secs S (S 11 (iN x0)) (iN x3) (iN x2) (iN x1))))) (fun u t => wE D (va_A (oX k o f ++ wC q k r S Z) sz) (oX k o u.2.2 ++ wC q k r u.1 u.2.1) t) (va_A (oX k o f ++ wC q k r S Z) sz)) 3 18 (va_A (oX k o f ++ wC q k r S Z) sz) := by
  refine va_MetW (cc := cL_same) (maxL := 7) (ret := some .int) (by decide) rfl ?_
  intro p e s m args below meth c s₁ B hml hv
  obtain ⟨rfl, ⟨⟨hsz, hP, hX, hD0⟩, hT, hZ⟩, hN⟩ := hv
  have hx := B.exec
  have hb := B.bytes
  have hr := B.returns
  have hts := atoms_spec (ws := wsL_same) B.pre
  have htab := vx_table (x := yL_same) B (hts _ List.mem_cons_self)
  have hown : s.vm.findClass RL = some m.cls := findClass_of_methodNamed B.named
  have hlocks := B.notSynchronized
  subst hsz
  have hD := hD0.self (sz := s.heap.size)
  generalize hAe : va_A (oX k o f ++ wC q k r S Z) s.heap.size = A at hD hZ ⊢
  have hA : ∀ q : Nat, s.heap.size ≤ q → A q := fun q h => by rw [← hAe]; exact Or.inr h
  have hS : va_S A s.heap s.heap [] := va_S.rf
  have hl := lv_entry ([.ref (q 0), .int x0, .int x1, .int x2, .int x3, .ref o]) (n := 7) (Nat.le_of_ble_eq_true rfl)
  rw [lg_entry_eq]
  generalize (lg_sl ([.ref (q 0), .int x0, .int x1, .int x2, .int x3, .ref o]) ++ List.replicate (7 - (lg_sl ([.ref (q 0), .int x0, .int x1, .int x2, .int x3, .ref o])).length) Slot.unset).toArray = ls at hl ⊢
  have hl : lv_has ls 7 [(0, .ref (q 0)), (1, .int x0), (2, .int x1), (3, .int x2), (4, .int x3), (5, .ref o)] := hl
  refine lv_aload hx hb dL_same_0 (lv_at hl 5 rfl) ?_
  refine lv_iconst (v := nI 0) hx hb dL_same_2 (by decide) ?_
  refine lv_aload_n hx hb dL_same_3 rfl (lv_at hl 0 rfl) ?_
  refine lv_iload_n hx hb dL_same_4 rfl (lv_at hl 1 rfl) ?_
  refine lv_iload_n hx hb dL_same_5 rfl (lv_at hl 2 rfl) ?_
  refine lv_iload_n hx hb dL_same_6 rfl (lv_at hl 3 rfl) ?_
  refine lv_iload hx hb dL_same_7 (lv_at hl 4 rfl) ?_
  refine lx_Vi (Wr := oX k o f) (Wd := wC q k r S Z) (As := [.int x0, .int x1, .int x2, .int x3]) (rest := [.int (nI 0), .ref o]) ⟨hx, hb, hml, hown, hts⟩ (k_X2_same l hst D q k r S Z _ x0 x1 x2 x3 hB hZ0 hZ2 hGw) (cwV 4 hts gL_same_X2_same rfl rfl rfl (by decide +kernel) ⟨by decide, by decide⟩) hX hT hZ hP hD hS hA (q0 := 0) rfl rfl rfl hl.1 rfl (Nat.le_of_ble_eq_true rfl) dL_same_9 ⟨(Nat.le_of_ble_eq_true rfl), (Nat.le_of_ble_eq_true rfl)⟩ (fun E u ce q9 H locs _ hxe hP hD hS hce hcv hcl => ?_) (fun r9 u H locs hp hP hD hS => ?_)
  · obtain ⟨rfl, hcd⟩ := hxe
    refine vx_catch (own := RL) (name := eIA) hown [] ⟨0, 21, 24, 13⟩ [] htab (fun z hz => nomatch hz) (by decide) (by decide) (hts (.classLink RL 13 eIA) (by decide +kernel)) (va_Nw.use rfl (hT.2.1 eIA (by decide +kernel))) hce hcv hcl ?_
    refine lv_astore hx hb dL_same_24 hl (by decide) rfl (fun ls hl => ?_)
    refine lv_iconst (v := nI 1) hx hb dL_same_26 (by decide) ?_
    refine W.widen (k := 3) (n := 18) (Nat.le_of_ble_eq_true rfl) (Nat.le_of_ble_eq_true rfl) ?_
    exact W.iret hx hb hr (fun t ht hW => ⟨⟨nI 1, (S, Z, f), rfl, wPn hcd (by decide), by rw [ht]; exact hP, hD⟩, hS.F ht⟩) hS.2.2 dL_same_27
  · skip
    refine lv_if_eq (tgt := 19) hx hb dL_same_12 (by decide) (fun h9 => ?_) (fun h9 => ?_)
    · skip
      refine lv_lconst (v := 0) hx hb dL_same_19 (by decide) ?_
      refine va_last hx hb hX.1 hP hD hS 0 3 rfl rfl (vp_in_nI (by decide) (by decide)) dL_same_20 (fun H locs hP hD hS => ?_)
      rw [nI_clamp (n := 0) (by decide)] at hP hD
      have hP : va_P D vwCl (oX k o (vp_updL f 0 0) ++ wC q k r u.1 u.2) H := hP
      have hD : va_D A (oX k o (vp_updL f 0 0) ++ wC q k r u.1 u.2) := hD
      refine lv_goto (tgt := 28) hx hb dL_same_21 (by decide) ?_
      refine lv_iconst (v := nI 0) hx hb dL_same_28 (by decide) ?_
      refine W.widen (k := 3) (n := 18) (Nat.le_of_ble_eq_true rfl) (Nat.le_of_ble_eq_true rfl) ?_
      exact W.iret hx hb hr (fun t ht hW => ⟨⟨nI 0, (u.1, u.2, vp_updL f 0 0), rfl, wP0 hp.1 hp.2.2.1 hp.2.2.2 ((updL0 (f := f) (x := 0)).trans (bL_0 (hp.2.1.symm.trans h9)).symm), by rw [ht]; exact hP, hD⟩, hS.F ht⟩) hS.2.2 dL_same_29
    · skip
      refine lv_lconst (v := 1) hx hb dL_same_15 (by decide) ?_
      refine lv_goto (tgt := 20) hx hb dL_same_16 (by decide) ?_
      refine va_last hx hb hX.1 hP hD hS 0 3 rfl rfl (vp_in_nI (by decide) (by decide)) dL_same_20 (fun H locs hP hD hS => ?_)
      rw [nI_clamp (n := 0) (by decide)] at hP hD
      have hP : va_P D vwCl (oX k o (vp_updL f 0 1) ++ wC q k r u.1 u.2) H := hP
      have hD : va_D A (oX k o (vp_updL f 0 1) ++ wC q k r u.1 u.2) := hD
      refine lv_goto (tgt := 28) hx hb dL_same_21 (by decide) ?_
      refine lv_iconst (v := nI 0) hx hb dL_same_28 (by decide) ?_
      refine W.widen (k := 3) (n := 18) (Nat.le_of_ble_eq_true rfl) (Nat.le_of_ble_eq_true rfl) ?_
      exact W.iret hx hb hr (fun t ht hW => ⟨⟨nI 0, (u.1, u.2, vp_updL f 0 1), rfl, wP0 hp.1 hp.2.2.1 hp.2.2.2 ((updL0 (f := f) (x := 1)).trans (bL_1 (fun z => h9 (hp.2.1.trans z))).symm), by rw [ht]; exact hP, hD⟩, hS.F ht⟩) hS.2.2 dL_same_29

set_option maxHeartbeats 4000000 in
set_option maxRecDepth 100000 in
theorem k_L_charger (l : Launch) (hst : l.stackTraces = false) (D : va_G) (q : Nat → Nat) (k : Nat → ClassId) (r : Nat → Nat) (S Z : Nat → Nat → Nat) (sz o : Nat) (f : Nat → Int64) (x0 : Int32) (hB : Bd S) : Met l yL_charger wsL_charger ({ frames := 8, cells := 2, slots := 12, locals := 132 } : Room) (va_Pc [.ref (q 0), .int x0, .ref o] (lB D k (oX k o f ++ wC q k r S Z) sz)) (va_Qi (wPost (cdC S x0) S (chS S (iN x0)) Z (fun z => z = Z) ((nI (S 0 3 + 1)).toInt64)) (fun u t => wE D (va_A (oX k o f ++ wC q k r S Z) sz) (oX k o u.2.2 ++ wC q k r u.1 u.2.1) t) (va_A (oX k o f ++ wC q k r S Z) sz)) 2 12 (va_A (oX k o f ++ wC q k r S Z) sz) := by
  refine va_MetW (cc := cL_charger) (maxL := 4) (ret := some .int) (by decide) rfl ?_
  intro p e s m args below meth c s₁ B hml hv
  obtain ⟨rfl, ⟨⟨hsz, hP, hX, hD0⟩, hT, hZ⟩, hN⟩ := hv
  have hx := B.exec
  have hb := B.bytes
  have hr := B.returns
  have hts := atoms_spec (ws := wsL_charger) B.pre
  have htab := vx_table (x := yL_charger) B (hts _ List.mem_cons_self)
  have hown : s.vm.findClass RL = some m.cls := findClass_of_methodNamed B.named
  have hlocks := B.notSynchronized
  subst hsz
  have hD := hD0.self (sz := s.heap.size)
  generalize hAe : va_A (oX k o f ++ wC q k r S Z) s.heap.size = A at hD hZ ⊢
  have hA : ∀ q : Nat, s.heap.size ≤ q → A q := fun q h => by rw [← hAe]; exact Or.inr h
  have hS : va_S A s.heap s.heap [] := va_S.rf
  have hl := lv_entry ([.ref (q 0), .int x0, .ref o]) (n := 4) (Nat.le_of_ble_eq_true rfl)
  rw [lg_entry_eq]
  generalize (lg_sl ([.ref (q 0), .int x0, .ref o]) ++ List.replicate (4 - (lg_sl ([.ref (q 0), .int x0, .ref o])).length) Slot.unset).toArray = ls at hl ⊢
  have hl : lv_has ls 4 [(0, .ref (q 0)), (1, .int x0), (2, .ref o)] := hl
  refine lv_aload_n hx hb dL_charger_0 rfl (lv_at hl 2 rfl) ?_
  refine lv_iconst (v := nI 0) hx hb dL_charger_1 (by decide) ?_
  refine lv_aload_n hx hb dL_charger_2 rfl (lv_at hl 0 rfl) ?_
  refine lv_iload_n hx hb dL_charger_3 rfl (lv_at hl 1 rfl) ?_
  refine lx_Vi (Wr := oX k o f) (Wd := wC q k r S Z) (As := [.int x0]) (rest := [.int (nI 0), .ref o]) ⟨hx, hb, hml, hown, hts⟩ (k_X2_charger l hst D q k r S Z _ x0 hB) (cwV 1 hts gL_charger_X2_charger rfl rfl rfl (by decide +kernel) ⟨by decide, by decide⟩) hX hT hZ hP hD hS hA (q0 := 0) rfl rfl rfl hl.1 rfl (Nat.le_of_ble_eq_true rfl) dL_charger_4 ⟨(Nat.le_of_ble_eq_true rfl), (Nat.le_of_ble_eq_true rfl)⟩ (fun E u ce q9 H locs _ hxe hP hD hS hce hcv hcl => ?_) (fun r9 u H locs hp hP hD hS => ?_)
  · rcases hxe with ⟨rfl, hcd⟩ | ⟨rfl, hcd⟩ | ⟨rfl, hcd⟩
    · skip
      refine vx_catch (own := RL) (name := eIA) hown [] ⟨0, 9, 12, 13⟩ [⟨0, 9, 15, 54⟩, ⟨0, 9, 18, 15⟩] htab (fun z hz => nomatch hz) (by decide) (by decide) (hts (.classLink RL 13 eIA) (by decide +kernel)) (va_Nw.use rfl (hT.2.1 eIA (by decide +kernel))) hce hcv hcl ?_
      refine lv_astore_n hx hb dL_charger_12 rfl hl (by decide) rfl (fun ls hl => ?_)
      refine lv_iconst (v := nI 1) hx hb dL_charger_13 (by decide) ?_
      refine W.widen (k := 2) (n := 12) (Nat.le_of_ble_eq_true rfl) (Nat.le_of_ble_eq_true rfl) ?_
      exact W.iret hx hb hr (fun t ht hW => ⟨⟨nI 1, (S, Z, f), rfl, wPn hcd (by decide), by rw [ht]; exact hP, hD⟩, hS.F ht⟩) hS.2.2 dL_charger_14
    · skip
      refine vx_catch (own := RL) (name := eIS) hown [⟨0, 9, 12, 13⟩] ⟨0, 9, 15, 54⟩ [⟨0, 9, 18, 15⟩] htab (al_1 (Or.inr ⟨by decide, eIA, (hts (.classLink RL 13 eIA) (by decide +kernel)), hN.1 (eIS, eIA) (by decide +kernel)⟩)) (by decide) (by decide) (hts (.classLink RL 54 eIS) (by decide +kernel)) (va_Nw.use rfl (hT.2.1 eIS (by decide +kernel))) hce hcv hcl ?_
      refine lv_astore_n hx hb dL_charger_15 rfl hl (by decide) rfl (fun ls hl => ?_)
      refine lv_iconst (v := nI 2) hx hb dL_charger_16 (by decide) ?_
      refine W.widen (k := 2) (n := 12) (Nat.le_of_ble_eq_true rfl) (Nat.le_of_ble_eq_true rfl) ?_
      exact W.iret hx hb hr (fun t ht hW => ⟨⟨nI 2, (S, Z, f), rfl, wPn hcd (by decide), by rw [ht]; exact hP, hD⟩, hS.F ht⟩) hS.2.2 dL_charger_17
    · skip
      refine vx_catch (own := RL) (name := eUO) hown [⟨0, 9, 12, 13⟩, ⟨0, 9, 15, 54⟩] ⟨0, 9, 18, 15⟩ [] htab (al_2 (Or.inr ⟨by decide, eIA, (hts (.classLink RL 13 eIA) (by decide +kernel)), hN.1 (eUO, eIA) (by decide +kernel)⟩) (Or.inr ⟨by decide, eIS, (hts (.classLink RL 54 eIS) (by decide +kernel)), hN.1 (eUO, eIS) (by decide +kernel)⟩)) (by decide) (by decide) (hts (.classLink RL 15 eUO) (by decide +kernel)) (va_Nw.use rfl (hT.2.1 eUO (by decide +kernel))) hce hcv hcl ?_
      refine lv_astore_n hx hb dL_charger_18 rfl hl (by decide) rfl (fun ls hl => ?_)
      refine lv_iconst (v := nI 3) hx hb dL_charger_19 (by decide) ?_
      refine W.widen (k := 2) (n := 12) (Nat.le_of_ble_eq_true rfl) (Nat.le_of_ble_eq_true rfl) ?_
      exact W.iret hx hb hr (fun t ht hW => ⟨⟨nI 3, (S, Z, f), rfl, wPn hcd (by decide), by rw [ht]; exact hP, hD⟩, hS.F ht⟩) hS.2.2 dL_charger_20
  · skip
    refine lv_i2l (v := r9.toInt64) hx hb dL_charger_7 rfl ?_
    refine va_last hx hb hX.1 hP hD hS 0 3 rfl rfl (vp_in_nI (by decide) (by decide)) dL_charger_8 (fun H locs hP hD hS => ?_)
    rw [nI_clamp (n := 0) (by decide)] at hP hD
    have hP : va_P D vwCl (oX k o (vp_updL f 0 r9.toInt64) ++ wC q k r u.1 u.2) H := hP
    have hD : va_D A (oX k o (vp_updL f 0 r9.toInt64) ++ wC q k r u.1 u.2) := hD
    refine lv_goto (tgt := 21) hx hb dL_charger_9 (by decide) ?_
    refine lv_iconst (v := nI 0) hx hb dL_charger_21 (by decide) ?_
    refine W.widen (k := 2) (n := 12) (Nat.le_of_ble_eq_true rfl) (Nat.le_of_ble_eq_true rfl) ?_
    exact W.iret hx hb hr (fun t ht hW => ⟨⟨nI 0, (u.1, u.2, vp_updL f 0 r9.toInt64), rfl, wP0 hp.1 hp.2.2.1 hp.2.2.2 (by rw [hp.2.1]; exact updL0 (f := f) (x := (nI (S 0 3 + 1)).toInt64)), by rw [ht]; exact hP, hD⟩, hS.F ht⟩) hS.2.2 dL_charger_22

set_option maxHeartbeats 4000000 in
set_option maxRecDepth 100000 in
theorem k_L_nearest (l : Launch) (hst : l.stackTraces = false) (D : va_G) (q : Nat → Nat) (k : Nat → ClassId) (r : Nat → Nat) (S Z : Nat → Nat → Nat) (sz o : Nat) (f : Nat → Int64) (x0 : Int32) (x1 : Int32) (x2 : Int32) (hB : Bd S) (hZ0 : ∀ p, Z 0 p ≤ 1) (hZ2 : ∀ p, Z 2 p ≤ 1) (hGw : Gw S) : Met l yL_nearest wsL_nearest ({ frames := 9, cells := 3, slots := 18, locals := 162 } : Room) (va_Pc [.ref (q 0), .int x0, .int x1, .int x2, .ref o] (lB D k (oX k o f ++ wC q k r S Z) sz)) (va_Qi (wPost (cd1 (okD S x0 x1 x1 x2)) S (S) Z (fun z => ZR Z z) ((pI (nrB S (S 11 (iN x0)) (iN x2) (iN x1) (S 0 0)).1).toInt64)) (fun u t => wE D (va_A (oX k o f ++ wC q k r S Z) sz) (oX k o u.2.2 ++ wC q k r u.1 u.2.1) t) (va_A (oX k o f ++ wC q k r S Z) sz)) 3 18 (va_A (oX k o f ++ wC q k r S Z) sz) := by
  refine va_MetW (cc := cL_nearest) (maxL := 6) (ret := some .int) (by decide) rfl ?_
  intro p e s m args below meth c s₁ B hml hv
  obtain ⟨rfl, ⟨⟨hsz, hP, hX, hD0⟩, hT, hZ⟩, hN⟩ := hv
  have hx := B.exec
  have hb := B.bytes
  have hr := B.returns
  have hts := atoms_spec (ws := wsL_nearest) B.pre
  have htab := vx_table (x := yL_nearest) B (hts _ List.mem_cons_self)
  have hown : s.vm.findClass RL = some m.cls := findClass_of_methodNamed B.named
  have hlocks := B.notSynchronized
  subst hsz
  have hD := hD0.self (sz := s.heap.size)
  generalize hAe : va_A (oX k o f ++ wC q k r S Z) s.heap.size = A at hD hZ ⊢
  have hA : ∀ q : Nat, s.heap.size ≤ q → A q := fun q h => by rw [← hAe]; exact Or.inr h
  have hS : va_S A s.heap s.heap [] := va_S.rf
  have hl := lv_entry ([.ref (q 0), .int x0, .int x1, .int x2, .ref o]) (n := 6) (Nat.le_of_ble_eq_true rfl)
  rw [lg_entry_eq]
  generalize (lg_sl ([.ref (q 0), .int x0, .int x1, .int x2, .ref o]) ++ List.replicate (6 - (lg_sl ([.ref (q 0), .int x0, .int x1, .int x2, .ref o])).length) Slot.unset).toArray = ls at hl ⊢
  have hl : lv_has ls 6 [(0, .ref (q 0)), (1, .int x0), (2, .int x1), (3, .int x2), (4, .ref o)] := hl
  refine lv_aload hx hb dL_nearest_0 (lv_at hl 4 rfl) ?_
  refine lv_iconst (v := nI 0) hx hb dL_nearest_2 (by decide) ?_
  refine lv_aload_n hx hb dL_nearest_3 rfl (lv_at hl 0 rfl) ?_
  refine lv_iload_n hx hb dL_nearest_4 rfl (lv_at hl 1 rfl) ?_
  refine lv_iload_n hx hb dL_nearest_5 rfl (lv_at hl 2 rfl) ?_
  refine lv_iload_n hx hb dL_nearest_6 rfl (lv_at hl 3 rfl) ?_
  refine lx_Vi (Wr := oX k o f) (Wd := wC q k r S Z) (As := [.int x0, .int x1, .int x2]) (rest := [.int (nI 0), .ref o]) ⟨hx, hb, hml, hown, hts⟩ (k_X2_nearest l hst D q k r S Z _ x0 x1 x2 hB hZ0 hZ2 hGw) (cwV 3 hts gL_nearest_X2_nearest rfl rfl rfl (by decide +kernel) ⟨by decide, by decide⟩) hX hT hZ hP hD hS hA (q0 := 0) rfl rfl rfl hl.1 rfl (Nat.le_of_ble_eq_true rfl) dL_nearest_7 ⟨(Nat.le_of_ble_eq_true rfl), (Nat.le_of_ble_eq_true rfl)⟩ (fun E u ce q9 H locs _ hxe hP hD hS hce hcv hcl => ?_) (fun r9 u H locs hp hP hD hS => ?_)
  · obtain ⟨rfl, hcd⟩ := hxe
    refine vx_catch (own := RL) (name := eIA) hown [] ⟨0, 12, 15, 13⟩ [] htab (fun z hz => nomatch hz) (by decide) (by decide) (hts (.classLink RL 13 eIA) (by decide +kernel)) (va_Nw.use rfl (hT.2.1 eIA (by decide +kernel))) hce hcv hcl ?_
    refine lv_astore hx hb dL_nearest_15 hl (by decide) rfl (fun ls hl => ?_)
    refine lv_iconst (v := nI 1) hx hb dL_nearest_17 (by decide) ?_
    refine W.widen (k := 3) (n := 18) (Nat.le_of_ble_eq_true rfl) (Nat.le_of_ble_eq_true rfl) ?_
    exact W.iret hx hb hr (fun t ht hW => ⟨⟨nI 1, (S, Z, f), rfl, wPn hcd (by decide), by rw [ht]; exact hP, hD⟩, hS.F ht⟩) hS.2.2 dL_nearest_18
  · skip
    refine lv_i2l (v := r9.toInt64) hx hb dL_nearest_10 rfl ?_
    refine va_last hx hb hX.1 hP hD hS 0 3 rfl rfl (vp_in_nI (by decide) (by decide)) dL_nearest_11 (fun H locs hP hD hS => ?_)
    rw [nI_clamp (n := 0) (by decide)] at hP hD
    have hP : va_P D vwCl (oX k o (vp_updL f 0 r9.toInt64) ++ wC q k r u.1 u.2) H := hP
    have hD : va_D A (oX k o (vp_updL f 0 r9.toInt64) ++ wC q k r u.1 u.2) := hD
    refine lv_goto (tgt := 19) hx hb dL_nearest_12 (by decide) ?_
    refine lv_iconst (v := nI 0) hx hb dL_nearest_19 (by decide) ?_
    refine W.widen (k := 3) (n := 18) (Nat.le_of_ble_eq_true rfl) (Nat.le_of_ble_eq_true rfl) ?_
    exact W.iret hx hb hr (fun t ht hW => ⟨⟨nI 0, (u.1, u.2, vp_updL f 0 r9.toInt64), rfl, wP0 hp.1 hp.2.2.1 hp.2.2.2 (by rw [hp.2.1]; exact updL0 (f := f) (x := (pI (nrB S (S 11 (iN x0)) (iN x2) (iN x1) (S 0 0)).1).toInt64)), by rw [ht]; exact hP, hD⟩, hS.F ht⟩) hS.2.2 dL_nearest_20

set_option maxHeartbeats 4000000 in
set_option maxRecDepth 100000 in
theorem k_L_table (l : Launch) (hst : l.stackTraces = false) (D : va_G) (q : Nat → Nat) (k : Nat → ClassId) (r : Nat → Nat) (S Z : Nat → Nat → Nat) (sz o : Nat) (f : Nat → Int64) (x0 : Int32) (x1 : Int32) (hB : Bd S) (hC : CI S Z) (hG : Gr S (2 * S 0 0)) (h4 : S 0 4 < 2 ^ 30) (h13 : ∀ i, S 13 i ≤ S 0 4) (hc3 : 0 < S 0 3 → 0 < S 0 4) (h12 : ∀ i, i < S 0 3 → S 12 i < S 0 0) : Met l yL_table wsL_table ({ frames := 8, cells := 1, slots := 6, locals := 140 } : Room) (va_Pc [.ref (q 0), .int x0, .int x1, .ref o] (lB D k (oX k o f ++ wC q k r S Z) sz)) (va_Qi (wPost (cdTb S x0 x1) S (tbS S (iN x0)) Z (fun z => CI (tbS S (iN x0)) z) ((rI (secs S (S 11 0) 12 (S 12 (iN x0)) (S 12 (iN x1)))).toInt64)) (fun u t => wE D (va_A (oX k o f ++ wC q k r S Z) sz) (oX k o u.2.2 ++ wC q k r u.1 u.2.1) t) (va_A (oX k o f ++ wC q k r S Z) sz)) 1 6 (va_A (oX k o f ++ wC q k r S Z) sz) := by
  refine va_MetW (cc := cL_table) (maxL := 5) (ret := some .int) (by decide) rfl ?_
  intro p e s m args below meth c s₁ B hml hv
  obtain ⟨rfl, ⟨⟨hsz, hP, hX, hD0⟩, hT, hZ⟩, hN⟩ := hv
  have hx := B.exec
  have hb := B.bytes
  have hr := B.returns
  have hts := atoms_spec (ws := wsL_table) B.pre
  have htab := vx_table (x := yL_table) B (hts _ List.mem_cons_self)
  have hown : s.vm.findClass RL = some m.cls := findClass_of_methodNamed B.named
  have hlocks := B.notSynchronized
  subst hsz
  have hD := hD0.self (sz := s.heap.size)
  generalize hAe : va_A (oX k o f ++ wC q k r S Z) s.heap.size = A at hD hZ ⊢
  have hA : ∀ q : Nat, s.heap.size ≤ q → A q := fun q h => by rw [← hAe]; exact Or.inr h
  have hS : va_S A s.heap s.heap [] := va_S.rf
  have hl := lv_entry ([.ref (q 0), .int x0, .int x1, .ref o]) (n := 5) (Nat.le_of_ble_eq_true rfl)
  rw [lg_entry_eq]
  generalize (lg_sl ([.ref (q 0), .int x0, .int x1, .ref o]) ++ List.replicate (5 - (lg_sl ([.ref (q 0), .int x0, .int x1, .ref o])).length) Slot.unset).toArray = ls at hl ⊢
  have hl : lv_has ls 5 [(0, .ref (q 0)), (1, .int x0), (2, .int x1), (3, .ref o)] := hl
  refine lv_aload_n hx hb dL_table_0 rfl (lv_at hl 3 rfl) ?_
  refine lv_iconst (v := nI 0) hx hb dL_table_1 (by decide) ?_
  refine lv_aload_n hx hb dL_table_2 rfl (lv_at hl 0 rfl) ?_
  refine lv_iload_n hx hb dL_table_3 rfl (lv_at hl 1 rfl) ?_
  refine lv_iload_n hx hb dL_table_4 rfl (lv_at hl 2 rfl) ?_
  refine lx_Vi (Wr := oX k o f) (Wd := wC q k r S Z) (As := [.int x0, .int x1]) (rest := [.int (nI 0), .ref o]) ⟨hx, hb, hml, hown, hts⟩ (k_X2_table l hst D q k r S Z _ x0 x1 hB hC hG h4 h13 hc3 h12) (cwV 2 hts gL_table_X2_table rfl rfl rfl (by decide +kernel) ⟨by decide, by decide⟩) hX hT hZ hP hD hS hA (q0 := 0) rfl rfl rfl hl.1 rfl (Nat.le_of_ble_eq_true rfl) dL_table_5 ⟨(Nat.le_of_ble_eq_true rfl), (Nat.le_of_ble_eq_true rfl)⟩ (fun E u ce q9 H locs _ hxe hP hD hS hce hcv hcl => ?_) (fun r9 u H locs hp hP hD hS => ?_)
  · rcases hxe with ⟨rfl, hcd⟩ | ⟨rfl, hcd⟩
    · skip
      refine vx_catch (own := RL) (name := eIS) hown [] ⟨0, 10, 13, 54⟩ [⟨0, 10, 17, 63⟩] htab (fun z hz => nomatch hz) (by decide) (by decide) (hts (.classLink RL 54 eIS) (by decide +kernel)) (va_Nw.use rfl (hT.2.1 eIS (by decide +kernel))) hce hcv hcl ?_
      refine lv_astore hx hb dL_table_13 hl (by decide) rfl (fun ls hl => ?_)
      refine lv_iconst (v := nI 1) hx hb dL_table_15 (by decide) ?_
      refine W.widen (k := 1) (n := 6) (Nat.le_of_ble_eq_true rfl) (Nat.le_of_ble_eq_true rfl) ?_
      exact W.iret hx hb hr (fun t ht hW => ⟨⟨nI 1, (S, Z, f), rfl, wPn hcd (by decide), by rw [ht]; exact hP, hD⟩, hS.F ht⟩) hS.2.2 dL_table_16
    · skip
      refine vx_catch (own := RL) (name := eAI) hown [⟨0, 10, 13, 54⟩] ⟨0, 10, 17, 63⟩ [] htab (al_1 (Or.inr ⟨by decide, eIS, (hts (.classLink RL 54 eIS) (by decide +kernel)), hN.1 (eAI, eIS) (by decide +kernel)⟩)) (by decide) (by decide) (va_tabs (lkw_t (.classLink RL 63 eAI) (List.mem_singleton.mpr rfl)) rfl (hN.2 _ (List.mem_singleton.mpr rfl))) (va_Nw.use rfl (hT.2.1 eAI (by decide +kernel))) hce hcv hcl ?_
      refine lv_astore hx hb dL_table_17 hl (by decide) rfl (fun ls hl => ?_)
      refine lv_iconst (v := nI 2) hx hb dL_table_19 (by decide) ?_
      refine W.widen (k := 1) (n := 6) (Nat.le_of_ble_eq_true rfl) (Nat.le_of_ble_eq_true rfl) ?_
      exact W.iret hx hb hr (fun t ht hW => ⟨⟨nI 2, (S, Z, f), rfl, wPn hcd (by decide), by rw [ht]; exact hP, hD⟩, hS.F ht⟩) hS.2.2 dL_table_20
  · skip
    refine lv_i2l (v := r9.toInt64) hx hb dL_table_8 rfl ?_
    refine va_last hx hb hX.1 hP hD hS 0 3 rfl rfl (vp_in_nI (by decide) (by decide)) dL_table_9 (fun H locs hP hD hS => ?_)
    rw [nI_clamp (n := 0) (by decide)] at hP hD
    have hP : va_P D vwCl (oX k o (vp_updL f 0 r9.toInt64) ++ wC q k r u.1 u.2) H := hP
    have hD : va_D A (oX k o (vp_updL f 0 r9.toInt64) ++ wC q k r u.1 u.2) := hD
    refine lv_goto (tgt := 21) hx hb dL_table_10 (by decide) ?_
    refine lv_iconst (v := nI 0) hx hb dL_table_21 (by decide) ?_
    refine W.widen (k := 1) (n := 6) (Nat.le_of_ble_eq_true rfl) (Nat.le_of_ble_eq_true rfl) ?_
    exact W.iret hx hb hr (fun t ht hW => ⟨⟨nI 0, (u.1, u.2, vp_updL f 0 r9.toInt64), rfl, wP0 hp.1 hp.2.2.1 (Eq.subst (motive := fun z => CI z u.2) hp.2.2.1 hp.2.2.2) (by rw [hp.2.1]; exact updL0 (f := f) (x := (rI (secs S (S 11 0) 12 (S 12 (iN x0)) (S 12 (iN x1)))).toInt64)), by rw [ht]; exact hP, hD⟩, hS.F ht⟩) hS.2.2 dL_table_22

set_option maxHeartbeats 4000000 in
set_option maxRecDepth 100000 in
theorem k_L_plain (l : Launch) (hst : l.stackTraces = false) (D : va_G) (q : Nat → Nat) (k : Nat → ClassId) (r : Nat → Nat) (S Z : Nat → Nat → Nat) (sz o : Nat) (f : Nat → Int64) (x0 : Int32) (x1 : Int32) (x2 : Int32) (x3 : Int32) (x4 : Int32) (hB : Bd S) (hZ0 : ∀ p, Z 0 p ≤ 1) (hZ2 : ∀ p, Z 2 p ≤ 1) (hL : LV S Z) (h8 : ∀ p, p < S 0 1 → S 8 p / 2 < S 0 0) : Met l yL_plain wsL_plain ({ frames := 9, cells := 4, slots := 24, locals := 225 } : Room) (va_Pc [.ref (q 0), .int x0, .int x1, .int x2, .int x3, .int x4, .ref o] (lB D k (oX k o f ++ wC q k r S Z) sz)) (va_Qi (wPost (cd1 (okD S x0 x1 x2 x3 ∧ 0 ≤ x4.toInt ∧ x4.toInt ≤ 5)) S (S) Z (fun z => ZR Z z) ((nI (if iN x1 = iN x2 then 0 else cpl S (opn S (S 11 (iN x0)) (iN x3)) (iN x1) (iN x2) (iN x4))).toInt64)) (fun u t => wE D (va_A (oX k o f ++ wC q k r S Z) sz) (oX k o u.2.2 ++ wC q k r u.1 u.2.1) t) (va_A (oX k o f ++ wC q k r S Z) sz)) 4 24 (va_A (oX k o f ++ wC q k r S Z) sz) := by
  refine va_MetW (cc := cL_plain) (maxL := 8) (ret := some .int) (by decide) rfl ?_
  intro p e s m args below meth c s₁ B hml hv
  obtain ⟨rfl, ⟨⟨hsz, hP, hX, hD0⟩, hT, hZ⟩, hN⟩ := hv
  have hx := B.exec
  have hb := B.bytes
  have hr := B.returns
  have hts := atoms_spec (ws := wsL_plain) B.pre
  have htab := vx_table (x := yL_plain) B (hts _ List.mem_cons_self)
  have hown : s.vm.findClass RL = some m.cls := findClass_of_methodNamed B.named
  have hlocks := B.notSynchronized
  subst hsz
  have hD := hD0.self (sz := s.heap.size)
  generalize hAe : va_A (oX k o f ++ wC q k r S Z) s.heap.size = A at hD hZ ⊢
  have hA : ∀ q : Nat, s.heap.size ≤ q → A q := fun q h => by rw [← hAe]; exact Or.inr h
  have hS : va_S A s.heap s.heap [] := va_S.rf
  have hl := lv_entry ([.ref (q 0), .int x0, .int x1, .int x2, .int x3, .int x4, .ref o]) (n := 8) (Nat.le_of_ble_eq_true rfl)
  rw [lg_entry_eq]
  generalize (lg_sl ([.ref (q 0), .int x0, .int x1, .int x2, .int x3, .int x4, .ref o]) ++ List.replicate (8 - (lg_sl ([.ref (q 0), .int x0, .int x1, .int x2, .int x3, .int x4, .ref o])).length) Slot.unset).toArray = ls at hl ⊢
  have hl : lv_has ls 8 [(0, .ref (q 0)), (1, .int x0), (2, .int x1), (3, .int x2), (4, .int x3), (5, .int x4), (6, .ref o)] := hl
  refine lv_aload hx hb dL_plain_0 (lv_at hl 6 rfl) ?_
  refine lv_iconst (v := nI 0) hx hb dL_plain_2 (by decide) ?_
  refine lv_aload_n hx hb dL_plain_3 rfl (lv_at hl 0 rfl) ?_
  refine lv_iload_n hx hb dL_plain_4 rfl (lv_at hl 1 rfl) ?_
  refine lv_iload_n hx hb dL_plain_5 rfl (lv_at hl 2 rfl) ?_
  refine lv_iload_n hx hb dL_plain_6 rfl (lv_at hl 3 rfl) ?_
  refine lv_iload hx hb dL_plain_7 (lv_at hl 4 rfl) ?_
  refine lv_iload hx hb dL_plain_9 (lv_at hl 5 rfl) ?_
  refine lx_Vi (Wr := oX k o f) (Wd := wC q k r S Z) (As := [.int x0, .int x1, .int x2, .int x3, .int x4]) (rest := [.int (nI 0), .ref o]) ⟨hx, hb, hml, hown, hts⟩ (k_X2_plain l hst D q k r S Z _ x0 x1 x2 x3 x4 hB hZ0 hZ2 hL h8) (cwV 5 hts gL_plain_X2_plain rfl rfl rfl (by decide +kernel) ⟨by decide, by decide⟩) hX hT hZ hP hD hS hA (q0 := 0) rfl rfl rfl hl.1 rfl (Nat.le_of_ble_eq_true rfl) dL_plain_11 ⟨(Nat.le_of_ble_eq_true rfl), (Nat.le_of_ble_eq_true rfl)⟩ (fun E u ce q9 H locs _ hxe hP hD hS hce hcv hcl => ?_) (fun r9 u H locs hp hP hD hS => ?_)
  · obtain ⟨rfl, hcd⟩ := hxe
    refine vx_catch (own := RL) (name := eIA) hown [] ⟨0, 16, 19, 13⟩ [] htab (fun z hz => nomatch hz) (by decide) (by decide) (hts (.classLink RL 13 eIA) (by decide +kernel)) (va_Nw.use rfl (hT.2.1 eIA (by decide +kernel))) hce hcv hcl ?_
    refine lv_astore hx hb dL_plain_19 hl (by decide) rfl (fun ls hl => ?_)
    refine lv_iconst (v := nI 1) hx hb dL_plain_21 (by decide) ?_
    refine W.widen (k := 4) (n := 24) (Nat.le_of_ble_eq_true rfl) (Nat.le_of_ble_eq_true rfl) ?_
    exact W.iret hx hb hr (fun t ht hW => ⟨⟨nI 1, (S, Z, f), rfl, wPn hcd (by decide), by rw [ht]; exact hP, hD⟩, hS.F ht⟩) hS.2.2 dL_plain_22
  · skip
    refine lv_i2l (v := r9.toInt64) hx hb dL_plain_14 rfl ?_
    refine va_last hx hb hX.1 hP hD hS 0 3 rfl rfl (vp_in_nI (by decide) (by decide)) dL_plain_15 (fun H locs hP hD hS => ?_)
    rw [nI_clamp (n := 0) (by decide)] at hP hD
    have hP : va_P D vwCl (oX k o (vp_updL f 0 r9.toInt64) ++ wC q k r u.1 u.2) H := hP
    have hD : va_D A (oX k o (vp_updL f 0 r9.toInt64) ++ wC q k r u.1 u.2) := hD
    refine lv_goto (tgt := 23) hx hb dL_plain_16 (by decide) ?_
    refine lv_iconst (v := nI 0) hx hb dL_plain_23 (by decide) ?_
    refine W.widen (k := 4) (n := 24) (Nat.le_of_ble_eq_true rfl) (Nat.le_of_ble_eq_true rfl) ?_
    exact W.iret hx hb hr (fun t ht hW => ⟨⟨nI 0, (u.1, u.2, vp_updL f 0 r9.toInt64), rfl, wP0 hp.1 hp.2.2.1 hp.2.2.2 (by rw [hp.2.1]; exact updL0 (f := f) (x := (nI (if iN x1 = iN x2 then 0 else cpl S (opn S (S 11 (iN x0)) (iN x3)) (iN x1) (iN x2) (iN x4))).toInt64)), by rw [ht]; exact hP, hD⟩, hS.F ht⟩) hS.2.2 dL_plain_24
