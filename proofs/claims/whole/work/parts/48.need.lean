set_option maxHeartbeats 4000000 in
set_option maxRecDepth 100000 in
theorem k_X2_needWidth (l : Launch) (hl : l.stackTraces = false) (sz : Nat) (x0 : Int32) : vx_Met l yX2_needWidth wsX2_needWidth ({ frames := 6, cells := 1, slots := 6, locals := 90 } : Room) (va_Pc [.int x0] (nB sz)) (va_Qv (fun _ : Unit => 1 ≤ x0.toInt ∧ x0.toInt ≤ 500) (fun _ _ => True) (fun q => sz ≤ q)) (vx_X (fun _ : Unit => ¬ (1 ≤ x0.toInt ∧ x0.toInt ≤ 500)) (fun E _ _ => E = eIA) (fun q => sz ≤ q)) 1 6 (fun q => sz ≤ q) := by
  refine vx_ofW (cc := cX2_needWidth) (maxL := 1) (ret := none) (by decide) rfl ?_
  intro p e s m args below meth c s₁ B hml hno hv
  obtain ⟨rfl, hsz, hT, hZ⟩ := hv
  have hx := B.exec
  have hb := B.bytes
  have hr := B.returns
  have hts := atoms_spec (ws := wsX2_needWidth) B.pre
  have hown : s.vm.findClass RX2 = some m.cls := findClass_of_methodNamed B.named
  have hlocks := B.notSynchronized
  subst hsz
  have hS : va_S (fun q => s.heap.size ≤ q) s.heap s.heap [] := va_S.rf
  have hgw : ∀ w ∈ (vx_atS RX2 45 eIA nm2).filter goodWord, w.before [Value.int x0].toArray s = true := fun w h => hts w (List.mem_cons_of_mem _ (List.mem_append_right _ h))
  have hl2 := lv_entry ([.int x0]) (n := 1) (Nat.le_of_ble_eq_true rfl)
  rw [lg_entry_eq]
  generalize (lg_sl ([.int x0]) ++ List.replicate (1 - (lg_sl ([.int x0])).length) Slot.unset).toArray = ls at hl2 ⊢
  have hl2 : lv_has ls 1 [(0, .int x0)] := hl2
  have hth : ¬ (1 ≤ x0.toInt ∧ x0.toInt ≤ 500) → W p l e (headSpec wsX2_needWidth ({ frames := 6, cells := 1, slots := 6, locals := 90 } : Room)).room s m [Value.int x0].toArray below meth c s.heap [] 0 0 (vx_MQ below (va_Qv (fun _ : Unit => 1 ≤ x0.toInt ∧ x0.toInt ≤ 500) (fun _ _ => True) (fun q => s.heap.size ≤ q)) (vx_X (fun _ : Unit => ¬ (1 ≤ x0.toInt ∧ x0.toInt ≤ 500)) (fun E _ _ => E = eIA) (fun q => s.heap.size ≤ q)) [Value.int x0].toArray s 1 6 (fun q => s.heap.size ≤ q)) (F0 m 12 ls []) := by
    intro hn
    refine th_row (is := 196) (text := "width out of range") hx hb hl hown (by decide +kernel) (by decide +kernel) (hts (.classLink RX2 41 eIA) (by decide +kernel)) (hts (.initialized eIA) (by decide +kernel)) hT (by decide +kernel) (by decide +kernel) hgw bd_IA gd_IA hZ hS (hl2.1.trans hml.symm) dX2_needWidth_12 dX2_needWidth_15 dX2_needWidth_16 dX2_needWidth_18 dX2_needWidth_21 hno (Nat.le_of_ble_eq_true rfl) (Nat.le_of_ble_eq_true rfl) (Nat.le_of_ble_eq_true rfl) (Nat.le_of_ble_eq_true rfl) hlocks (fun t hvm h1 h2 => ⟨(), hn, rfl, th_F hS h1 h2⟩) (fun _ h => by cases h) (Nat.le_refl _) (Nat.le_refl _)
  have hrt : (1 ≤ x0.toInt ∧ x0.toInt ≤ 500) → W p l e (headSpec wsX2_needWidth ({ frames := 6, cells := 1, slots := 6, locals := 90 } : Room)).room s m [Value.int x0].toArray below meth c s.heap [] 0 0 (vx_MQ below (va_Qv (fun _ : Unit => 1 ≤ x0.toInt ∧ x0.toInt ≤ 500) (fun _ _ => True) (fun q => s.heap.size ≤ q)) (vx_X (fun _ : Unit => ¬ (1 ≤ x0.toInt ∧ x0.toInt ≤ 500)) (fun E _ _ => E = eIA) (fun q => s.heap.size ≤ q)) [Value.int x0].toArray s 1 6 (fun q => s.heap.size ≤ q)) (F0 m 22 ls []) := by
    intro hn
    refine vx_ret (W.widen (k := 1) (n := 6) (by omega) (by omega) ?_)
    exact W.vret hx hb hr (fun t ht hW => ⟨⟨(), rfl, hn, trivial⟩, hS.F ht⟩) hS.2.2 dX2_needWidth_22
  refine lv_iload_n hx hb dX2_needWidth_0 rfl (lv_at hl2 0 rfl) ?_
  refine lv_iconst (v := nI 1) hx hb dX2_needWidth_1 (by decide) ?_
  refine nr_icmp_lt (tgt := 12) hx hb dX2_needWidth_2 (by decide) (fun h_1 => hth (by have h9 : x0.toInt < (1 : Int) := h_1; omega)) (fun h_1 => ?_)
  refine lv_iload_n hx hb dX2_needWidth_5 rfl (lv_at hl2 0 rfl) ?_
  refine lv_sipush (v := nI 500) hx hb dX2_needWidth_6 (by decide) ?_
  exact nr_icmp_le (tgt := 22) hx hb dX2_needWidth_9 (by decide) (fun h_7 => hrt (by have h8 : (1 : Int) ≤ x0.toInt := h_1; have h9 : x0.toInt ≤ (500 : Int) := h_7; omega)) (fun h_7 => hth (by have h9 : (500 : Int) < x0.toInt := h_7; omega))

set_option maxHeartbeats 4000000 in
set_option maxRecDepth 100000 in
theorem k_X2_needZeroOrOne (l : Launch) (hl : l.stackTraces = false) (sz : Nat) (x0 : Int32) : vx_Met l yX2_needZeroOrOne wsX2_needZeroOrOne ({ frames := 6, cells := 1, slots := 6, locals := 90 } : Room) (va_Pc [.int x0] (nB sz)) (va_Qv (fun _ : Unit => 0 ≤ x0.toInt ∧ x0.toInt ≤ 1) (fun _ _ => True) (fun q => sz ≤ q)) (vx_X (fun _ : Unit => ¬ (0 ≤ x0.toInt ∧ x0.toInt ≤ 1)) (fun E _ _ => E = eIA) (fun q => sz ≤ q)) 1 6 (fun q => sz ≤ q) := by
  refine vx_ofW (cc := cX2_needZeroOrOne) (maxL := 1) (ret := none) (by decide) rfl ?_
  intro p e s m args below meth c s₁ B hml hno hv
  obtain ⟨rfl, hsz, hT, hZ⟩ := hv
  have hx := B.exec
  have hb := B.bytes
  have hr := B.returns
  have hts := atoms_spec (ws := wsX2_needZeroOrOne) B.pre
  have hown : s.vm.findClass RX2 = some m.cls := findClass_of_methodNamed B.named
  have hlocks := B.notSynchronized
  subst hsz
  have hS : va_S (fun q => s.heap.size ≤ q) s.heap s.heap [] := va_S.rf
  have hgw : ∀ w ∈ (vx_atS RX2 45 eIA nm2).filter goodWord, w.before [Value.int x0].toArray s = true := fun w h => hts w (List.mem_cons_of_mem _ (List.mem_append_right _ h))
  have hl2 := lv_entry ([.int x0]) (n := 1) (Nat.le_of_ble_eq_true rfl)
  rw [lg_entry_eq]
  generalize (lg_sl ([.int x0]) ++ List.replicate (1 - (lg_sl ([.int x0])).length) Slot.unset).toArray = ls at hl2 ⊢
  have hl2 : lv_has ls 1 [(0, .int x0)] := hl2
  have hth : ¬ (0 ≤ x0.toInt ∧ x0.toInt ≤ 1) → W p l e (headSpec wsX2_needZeroOrOne ({ frames := 6, cells := 1, slots := 6, locals := 90 } : Room)).room s m [Value.int x0].toArray below meth c s.heap [] 0 0 (vx_MQ below (va_Qv (fun _ : Unit => 0 ≤ x0.toInt ∧ x0.toInt ≤ 1) (fun _ _ => True) (fun q => s.heap.size ≤ q)) (vx_X (fun _ : Unit => ¬ (0 ≤ x0.toInt ∧ x0.toInt ≤ 1)) (fun E _ _ => E = eIA) (fun q => s.heap.size ≤ q)) [Value.int x0].toArray s 1 6 (fun q => s.heap.size ≤ q)) (F0 m 9 ls []) := by
    intro hn
    refine th_row (is := 198) (text := "neither 0 nor 1") hx hb hl hown (by decide +kernel) (by decide +kernel) (hts (.classLink RX2 41 eIA) (by decide +kernel)) (hts (.initialized eIA) (by decide +kernel)) hT (by decide +kernel) (by decide +kernel) hgw bd_IA gd_IA hZ hS (hl2.1.trans hml.symm) dX2_needZeroOrOne_9 dX2_needZeroOrOne_12 dX2_needZeroOrOne_13 dX2_needZeroOrOne_15 dX2_needZeroOrOne_18 hno (Nat.le_of_ble_eq_true rfl) (Nat.le_of_ble_eq_true rfl) (Nat.le_of_ble_eq_true rfl) (Nat.le_of_ble_eq_true rfl) hlocks (fun t hvm h1 h2 => ⟨(), hn, rfl, th_F hS h1 h2⟩) (fun _ h => by cases h) (Nat.le_refl _) (Nat.le_refl _)
  have hrt : (0 ≤ x0.toInt ∧ x0.toInt ≤ 1) → W p l e (headSpec wsX2_needZeroOrOne ({ frames := 6, cells := 1, slots := 6, locals := 90 } : Room)).room s m [Value.int x0].toArray below meth c s.heap [] 0 0 (vx_MQ below (va_Qv (fun _ : Unit => 0 ≤ x0.toInt ∧ x0.toInt ≤ 1) (fun _ _ => True) (fun q => s.heap.size ≤ q)) (vx_X (fun _ : Unit => ¬ (0 ≤ x0.toInt ∧ x0.toInt ≤ 1)) (fun E _ _ => E = eIA) (fun q => s.heap.size ≤ q)) [Value.int x0].toArray s 1 6 (fun q => s.heap.size ≤ q)) (F0 m 19 ls []) := by
    intro hn
    refine vx_ret (W.widen (k := 1) (n := 6) (by omega) (by omega) ?_)
    exact W.vret hx hb hr (fun t ht hW => ⟨⟨(), rfl, hn, trivial⟩, hS.F ht⟩) hS.2.2 dX2_needZeroOrOne_19
  refine lv_iload_n hx hb dX2_needZeroOrOne_0 rfl (lv_at hl2 0 rfl) ?_
  refine nr_if_eq (tgt := 19) hx hb dX2_needZeroOrOne_1 (by decide) (fun h_1 => hrt (by omega)) (fun h_1 => ?_)
  refine lv_iload_n hx hb dX2_needZeroOrOne_4 rfl (lv_at hl2 0 rfl) ?_
  refine lv_iconst (v := nI 1) hx hb dX2_needZeroOrOne_5 (by decide) ?_
  exact nr_icmp_eq (tgt := 19) hx hb dX2_needZeroOrOne_6 (by decide) (fun h_7 => hrt (by have h9 : x0.toInt = (1 : Int) := h_7; omega)) (fun h_7 => hth (by have h9 : x0.toInt ≠ (1 : Int) := h_7; omega))

set_option maxHeartbeats 4000000 in
set_option maxRecDepth 100000 in
theorem k_X2_needPiece (l : Launch) (hst : l.stackTraces = false) (D : va_G) (q : Nat → Nat) (k : Nat → ClassId) (r : Nat → Nat) (S Z : Nat → Nat → Nat) (sz : Nat) (x0 : Int32) (hB : Bd S) : vx_Met l yX2_needPiece wsX2_needPiece ({ frames := 6, cells := 1, slots := 6, locals := 90 } : Room) (va_Pc [.ref (q 0), .int x0] (tB D k (wC q k r S Z) sz)) (va_Qv (fun (u : (Nat → Nat → Nat) × (Nat → Nat → Nat)) => u.1 = S ∧ u.2 = Z ∧ isPc S x0) (fun u t => wE D (va_A (wC q k r S Z) sz) (wC q k r u.1 u.2) t) (va_A (wC q k r S Z) sz)) (vx_X (fun _ : Unit => True) (fun E _ t => (E = eIA ∧ ¬ isPc S x0) ∧ wE D (va_A (wC q k r S Z) sz) (wC q k r S Z) t) (va_A (wC q k r S Z) sz)) 1 6 (va_A (wC q k r S Z) sz) := by
  refine vx_ofW (cc := cX2_needPiece) (maxL := 2) (ret := none) (by decide) rfl ?_
  intro p e s m args below meth c s₁ B hml hno hv
  obtain ⟨rfl, ⟨hsz, hP, hX, hD0⟩, hT, hZ⟩ := hv
  have hx := B.exec
  have hb := B.bytes
  have hr := B.returns
  have hts := atoms_spec (ws := wsX2_needPiece) B.pre
  have hown : s.vm.findClass RX2 = some m.cls := findClass_of_methodNamed B.named
  have hlocks := B.notSynchronized
  subst hsz
  have hD := hD0.self (sz := s.heap.size)
  generalize hAe : va_A (wC q k r S Z) s.heap.size = A at hD hZ ⊢
  have hA : ∀ q : Nat, s.heap.size ≤ q → A q := fun q h => by rw [← hAe]; exact Or.inr h
  have hS : va_S A s.heap s.heap [] := va_S.rf
  have hP : va_P D vwCl (wC q k r S Z) s.heap := hP
  have hf_12 := hts (.fieldLink RX2 12 "FloorGraph" "floor" "LFloorGraph$Floor;") (by decide +kernel)
  have hf_50 : (Cond.fieldLinkNest "FloorGraph" 50 "FloorGraph$Floor" "pieces" "I" "FloorGraph").before _ s = true := va_Nw.use (A := [.ref (q 0), .int x0].toArray) rfl (hX.2.1 ("FloorGraph", 50, "FloorGraph$Floor", "pieces", "I", "FloorGraph") (by decide +kernel))
  have hin_X1 : ∀ w ∈ u_ws RX1 TX1 14, w ∈ wsX2_needPiece := by decide +kernel
  have hin_X2 : ∀ w ∈ u_ws RX2 TX2 12, w ∈ wsX2_needPiece := by decide +kernel
  have hg_45 : ∀ w ∈ (vx_atS RX2 45 eIA nm2).filter goodWord, w.before [.ref (q 0), .int x0].toArray s = true := fun w h => hts w (List.mem_cons_of_mem _ (List.mem_append_right _ h))
  have f0 := hB.1
  have f1 := nI_toInt (n := S 0 0) (by omega)
  have hl := lv_entry ([.ref (q 0), .int x0]) (n := 2) (Nat.le_of_ble_eq_true rfl)
  rw [lg_entry_eq]
  generalize (lg_sl ([.ref (q 0), .int x0]) ++ List.replicate (2 - (lg_sl ([.ref (q 0), .int x0])).length) Slot.unset).toArray = ls at hl ⊢
  have hl : lv_has ls 2 [(0, .ref (q 0)), (1, .int x0)] := hl
  refine lv_iload_n hx hb dX2_needPiece_0 rfl (lv_at hl 1 rfl) ?_
  refine nr_if_lt (tgt := 15) hx hb dX2_needPiece_1 (by decide) (fun h_1 => ?_) (fun h_1 => ?_)
  · skip
    exact th_row (is := 192) (text := "no such piece") (rest := []) hx hb hst hown (by decide +kernel) (by decide +kernel) (hts (.classLink RX2 41 eIA) (by decide +kernel)) (hts (.initialized eIA) (by decide +kernel)) hT (by decide +kernel) (by decide +kernel) hg_45 bd_IA gd_IA hZ hS (hl.1.trans hml.symm) dX2_needPiece_15 dX2_needPiece_18 dX2_needPiece_19 dX2_needPiece_21 dX2_needPiece_24 hno (Nat.le_of_ble_eq_true rfl) (Nat.le_of_ble_eq_true rfl) (Nat.le_of_ble_eq_true rfl) (Nat.le_of_ble_eq_true rfl) hlocks (fun t hvm h1 h2 => ⟨(), trivial, ⟨⟨rfl, fun q => by unfold isPc at q; omega⟩, th_P hP h2, hD⟩, th_F hS h1 h2⟩) hS.2.2 (Nat.le_of_ble_eq_true rfl) (Nat.le_of_ble_eq_true rfl)
  · skip
    refine lv_iload_n hx hb dX2_needPiece_4 rfl (lv_at hl 1 rfl) ?_
    refine lv_aload_n hx hb dX2_needPiece_5 rfl (lv_at hl 0 rfl) ?_
    refine va_get (D := D) (v := .ref (q 1)) hx hb hts hin_X2 hown hX.1 hP 0 rfl rfl 0 (by decide) hf_12 (fun _ h9 => h9) rfl dX2_needPiece_6 ?_
    refine va_getN (D := D) (v := .int (nI (S 0 0))) hx hb hts hin_X1 hown hX.1 hP 1 rfl rfl 0 (by decide) hf_50 (fun _ h9 => h9) rfl dX2_needPiece_9 ?_
    refine nr_icmp_lt (tgt := 25) hx hb dX2_needPiece_12 (by decide) (fun h_12 => ?_) (fun h_12 => ?_)
    · skip
      rw [f1] at h_12
      refine vx_ret (W.widen (k := 1) (n := 6) (Nat.le_of_ble_eq_true rfl) (Nat.le_of_ble_eq_true rfl) ?_)
      exact W.vret hx hb hr (fun t ht hW => ⟨⟨(S, Z), rfl, ⟨rfl, rfl, by unfold isPc; omega⟩, by rw [ht]; exact hP, hD⟩, hS.F ht⟩) hS.2.2 dX2_needPiece_25
    · skip
      rw [f1] at h_12
      exact th_row (is := 192) (text := "no such piece") (rest := []) hx hb hst hown (by decide +kernel) (by decide +kernel) (hts (.classLink RX2 41 eIA) (by decide +kernel)) (hts (.initialized eIA) (by decide +kernel)) hT (by decide +kernel) (by decide +kernel) hg_45 bd_IA gd_IA hZ hS (hl.1.trans hml.symm) dX2_needPiece_15 dX2_needPiece_18 dX2_needPiece_19 dX2_needPiece_21 dX2_needPiece_24 hno (Nat.le_of_ble_eq_true rfl) (Nat.le_of_ble_eq_true rfl) (Nat.le_of_ble_eq_true rfl) (Nat.le_of_ble_eq_true rfl) hlocks (fun t hvm h1 h2 => ⟨(), trivial, ⟨⟨rfl, fun q => by unfold isPc at q; omega⟩, th_P hP h2, hD⟩, th_F hS h1 h2⟩) hS.2.2 (Nat.le_of_ble_eq_true rfl) (Nat.le_of_ble_eq_true rfl)

set_option maxHeartbeats 4000000 in
set_option maxRecDepth 100000 in
theorem k_X2_needJourney (l : Launch) (hst : l.stackTraces = false) (D : va_G) (q : Nat → Nat) (k : Nat → ClassId) (r : Nat → Nat) (S Z : Nat → Nat → Nat) (sz : Nat) (x0 : Int32) (x1 : Int32) (x2 : Int32) (x3 : Int32) (hB : Bd S) : vx_Met l yX2_needJourney wsX2_needJourney ({ frames := 7, cells := 3, slots := 18, locals := 111 } : Room) (va_Pc [.ref (q 0), .int x0, .int x1, .int x2, .int x3] (tB D k (wC q k r S Z) sz)) (va_Qv (fun (u : (Nat → Nat → Nat) × (Nat → Nat → Nat)) => u.1 = S ∧ u.2 = Z ∧ okD S x0 x1 x2 x3) (fun u t => wE D (va_A (wC q k r S Z) sz) (wC q k r u.1 u.2) t) (va_A (wC q k r S Z) sz)) (vx_X (fun _ : Unit => True) (fun E _ t => (E = eIA ∧ ¬ okD S x0 x1 x2 x3) ∧ wE D (va_A (wC q k r S Z) sz) (wC q k r S Z) t) (va_A (wC q k r S Z) sz)) 3 18 (va_A (wC q k r S Z) sz) := by
  refine vx_ofW (cc := cX2_needJourney) (maxL := 5) (ret := none) (by decide) rfl ?_
  intro p e s m args below meth c s₁ B hml hno hv
  obtain ⟨rfl, ⟨hsz, hP, hX, hD0⟩, hT, hZ⟩ := hv
  have hx := B.exec
  have hb := B.bytes
  have hr := B.returns
  have hts := atoms_spec (ws := wsX2_needJourney) B.pre
  have hown : s.vm.findClass RX2 = some m.cls := findClass_of_methodNamed B.named
  have hlocks := B.notSynchronized
  subst hsz
  have hD := hD0.self (sz := s.heap.size)
  generalize hAe : va_A (wC q k r S Z) s.heap.size = A at hD hZ ⊢
  have hA : ∀ q : Nat, s.heap.size ≤ q → A q := fun q h => by rw [← hAe]; exact Or.inr h
  have hS : va_S A s.heap s.heap [] := va_S.rf
  have hP : va_P D vwCl (wC q k r S Z) s.heap := hP
  have hf_118 := hts (.fieldLink RX2 118 "FloorGraph" "robots" "I") (by decide +kernel)
  have hin_X2 : ∀ w ∈ u_ws RX2 TX2 12, w ∈ wsX2_needJourney := by decide +kernel
  have hg_45 : ∀ w ∈ (vx_atS RX2 45 eIA nm2).filter goodWord, w.before [.ref (q 0), .int x0, .int x1, .int x2, .int x3].toArray s = true := fun w h => hts w (List.mem_cons_of_mem _ (List.mem_append_right _ h))
  have f0 := hB.1
  have f1 := nI_toInt (n := S 0 2) (by omega)
  have hl := lv_entry ([.ref (q 0), .int x0, .int x1, .int x2, .int x3]) (n := 5) (Nat.le_of_ble_eq_true rfl)
  rw [lg_entry_eq]
  generalize (lg_sl ([.ref (q 0), .int x0, .int x1, .int x2, .int x3]) ++ List.replicate (5 - (lg_sl ([.ref (q 0), .int x0, .int x1, .int x2, .int x3])).length) Slot.unset).toArray = ls at hl ⊢
  have hl : lv_has ls 5 [(0, .ref (q 0)), (1, .int x0), (2, .int x1), (3, .int x2), (4, .int x3)] := hl
  refine lv_iload_n hx hb dX2_needJourney_0 rfl (lv_at hl 1 rfl) ?_
  refine nr_if_lt (tgt := 12) hx hb dX2_needJourney_1 (by decide) (fun h_1 => ?_) (fun h_1 => ?_)
  · skip
    exact th_row (is := 190) (text := "no such robot") (rest := []) hx hb hst hown (by decide +kernel) (by decide +kernel) (hts (.classLink RX2 41 eIA) (by decide +kernel)) (hts (.initialized eIA) (by decide +kernel)) hT (by decide +kernel) (by decide +kernel) hg_45 bd_IA gd_IA hZ hS (hl.1.trans hml.symm) dX2_needJourney_12 dX2_needJourney_15 dX2_needJourney_16 dX2_needJourney_18 dX2_needJourney_21 hno (Nat.le_of_ble_eq_true rfl) (Nat.le_of_ble_eq_true rfl) (Nat.le_of_ble_eq_true rfl) (Nat.le_of_ble_eq_true rfl) hlocks (fun t hvm h1 h2 => ⟨(), trivial, ⟨⟨rfl, fun q => by unfold okD at q; omega⟩, th_P hP h2, hD⟩, th_F hS h1 h2⟩) hS.2.2 (Nat.le_of_ble_eq_true rfl) (Nat.le_of_ble_eq_true rfl)
  · skip
    refine lv_iload_n hx hb dX2_needJourney_4 rfl (lv_at hl 1 rfl) ?_
    refine lv_aload_n hx hb dX2_needJourney_5 rfl (lv_at hl 0 rfl) ?_
    refine va_get (D := D) (v := .int (nI (S 0 2))) hx hb hts hin_X2 hown hX.1 hP 0 rfl rfl 3 (by decide) hf_118 (fun _ h9 => h9) rfl dX2_needJourney_6 ?_
    refine nr_icmp_lt (tgt := 22) hx hb dX2_needJourney_9 (by decide) (fun h_9 => ?_) (fun h_9 => ?_)
    · skip
      rw [f1] at h_9
      refine lv_aload_n hx hb dX2_needJourney_22 rfl (lv_at hl 0 rfl) ?_
      refine lv_iload_n hx hb dX2_needJourney_23 rfl (lv_at hl 2 rfl) ?_
      refine xr_Vv (As := [.int x1]) (rest := []) ⟨hx, hb, hml, hown, hts⟩ (k_X2_needPiece l hst D q k r S Z _ x1 hB) (cwV 1 hts gX2_needJourney_X2_needPiece rfl rfl rfl (by decide +kernel) ⟨by decide, by decide⟩) hX hT hZ hP hD hS hA (q0 := 0) rfl rfl rfl hl.1 rfl (Nat.le_of_ble_eq_true rfl) dX2_needJourney_24 ⟨(Nat.le_of_ble_eq_true rfl), (Nat.le_of_ble_eq_true rfl)⟩ hno hlocks (Nat.le_of_ble_eq_true rfl) (Nat.le_of_ble_eq_true rfl) (fun _ h => h) (fun E u t _ hxe hvm hP9 hD9 hF9 => ⟨(), trivial, ⟨⟨hxe.1, fun q => hxe.2 q.2.1⟩, hP9, hD9⟩, hF9⟩) (fun u_1 H locs hw_1 hP hD hS => ?_)
      obtain ⟨S_1, Z_1⟩ := u_1
      obtain ⟨e1, e2, hk_1⟩ := hw_1
      dsimp only at e1 e2 hP hD
      rw [e1, e2] at hP hD
      have hP : va_P D vwCl (wC q k r S Z) H := hP
      have hD : va_D A (wC q k r S Z) := hD
      refine lv_aload_n hx hb dX2_needJourney_27 rfl (lv_at hl 0 rfl) ?_
      refine lv_iload_n hx hb dX2_needJourney_28 rfl (lv_at hl 3 rfl) ?_
      refine xr_Vv (As := [.int x2]) (rest := []) ⟨hx, hb, hml, hown, hts⟩ (k_X2_needPiece l hst D q k r S Z _ x2 hB) (cwV 1 hts gX2_needJourney_X2_needPiece rfl rfl rfl (by decide +kernel) ⟨by decide, by decide⟩) hX hT hZ hP hD hS hA (q0 := 0) rfl rfl rfl hl.1 rfl (Nat.le_of_ble_eq_true rfl) dX2_needJourney_29 ⟨(Nat.le_of_ble_eq_true rfl), (Nat.le_of_ble_eq_true rfl)⟩ hno hlocks (Nat.le_of_ble_eq_true rfl) (Nat.le_of_ble_eq_true rfl) (fun _ h => h) (fun E u t _ hxe hvm hP9 hD9 hF9 => ⟨(), trivial, ⟨⟨hxe.1, fun q => hxe.2 q.2.2.1⟩, hP9, hD9⟩, hF9⟩) (fun u_2 H locs hw_2 hP hD hS => ?_)
      obtain ⟨S_2, Z_2⟩ := u_2
      obtain ⟨e1, e2, hk_2⟩ := hw_2
      dsimp only at e1 e2 hP hD
      rw [e1, e2] at hP hD
      have hP : va_P D vwCl (wC q k r S Z) H := hP
      have hD : va_D A (wC q k r S Z) := hD
      refine lv_iload hx hb dX2_needJourney_32 (lv_at hl 4 rfl) ?_
      refine xr_Sv (As := [.int x3]) (rest := []) ⟨hx, hb, hml, hown, hts⟩ (k_X2_needHour l hst _ x3 ) (va_cwS 1 hts gX2_needJourney_X2_needHour rfl rfl rfl (by decide +kernel) ⟨by decide, by decide⟩) hT hZ hP hS hA rfl hl.1 rfl (Nat.le_of_ble_eq_true rfl) dX2_needJourney_34 ⟨(Nat.le_of_ble_eq_true rfl), (Nat.le_of_ble_eq_true rfl)⟩ hno hlocks (Nat.le_of_ble_eq_true rfl) (Nat.le_of_ble_eq_true rfl) (fun _ h => h) (fun E t hok hxe hvm hP9 hF9 => ⟨(), trivial, ⟨⟨hxe, fun q => hok q.2.2.2⟩, hP9, hD⟩, hF9⟩) (fun H locs hw_3 hP hS => ?_)
      have hP : va_P D vwCl (wC q k r S Z) H := hP
      refine vx_ret (W.widen (k := 3) (n := 18) (Nat.le_of_ble_eq_true rfl) (Nat.le_of_ble_eq_true rfl) ?_)
      exact W.vret hx hb hr (fun t ht hW => ⟨⟨(S, Z), rfl, ⟨rfl, rfl, ⟨by omega, by omega⟩, hk_1, hk_2, hw_3⟩, by rw [ht]; exact hP, hD⟩, hS.F ht⟩) hS.2.2 dX2_needJourney_37
    · skip
      rw [f1] at h_9
      exact th_row (is := 190) (text := "no such robot") (rest := []) hx hb hst hown (by decide +kernel) (by decide +kernel) (hts (.classLink RX2 41 eIA) (by decide +kernel)) (hts (.initialized eIA) (by decide +kernel)) hT (by decide +kernel) (by decide +kernel) hg_45 bd_IA gd_IA hZ hS (hl.1.trans hml.symm) dX2_needJourney_12 dX2_needJourney_15 dX2_needJourney_16 dX2_needJourney_18 dX2_needJourney_21 hno (Nat.le_of_ble_eq_true rfl) (Nat.le_of_ble_eq_true rfl) (Nat.le_of_ble_eq_true rfl) (Nat.le_of_ble_eq_true rfl) hlocks (fun t hvm h1 h2 => ⟨(), trivial, ⟨⟨rfl, fun q => by unfold okD at q; omega⟩, th_P hP h2, hD⟩, th_F hS h1 h2⟩) hS.2.2 (Nat.le_of_ble_eq_true rfl) (Nat.le_of_ble_eq_true rfl)
