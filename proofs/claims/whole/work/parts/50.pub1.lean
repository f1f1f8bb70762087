set_option maxHeartbeats 4000000 in
set_option maxRecDepth 100000 in
theorem k_X2_joinEnds (l : Launch) (hst : l.stackTraces = false) (D : va_G) (q : Nat → Nat) (k : Nat → ClassId) (r : Nat → Nat) (S Z : Nat → Nat → Nat) (sz : Nat) (s0 : Nat) (g0 : Nat) (x0 : Int32) (hB : Bd S) (hj : S 0 1 % 2 = 0) (hs : s0 < 40) (hg : g0 < 40) (hne : s0 ≠ g0) (hz : S 0 1 < 80 → Z 3 s0 < 40) (hy : S 0 1 < 80 → Z 3 g0 < 40) : vx_Met l yX2_joinEnds wsX2_joinEnds ({ frames := 6, cells := 1, slots := 6, locals := 90 } : Room) (va_Pc [.ref (q 0), .int (nI s0), .int (nI g0), .int x0] (tB D k (wC q k r S Z) sz)) (va_Qi (fun (r : Int32) (u : (Nat → Nat → Nat) × (Nat → Nat → Nat)) => r = nI (S 0 1 / 2) ∧ u.1 = addJ S s0 g0 (iN x0) ∧ u.2 = lv2 S Z s0 g0 (iN x0) ∧ (0 ≤ x0.toInt ∧ x0.toInt ≤ 100) ∧ S 0 1 < 80) (fun u t => wE D (va_A (wC q k r S Z) sz) (wC q k r u.1 u.2) t) (va_A (wC q k r S Z) sz)) (vx_X (fun _ : Unit => True) (fun E _ t => ((E = eIA ∧ ¬ (0 ≤ x0.toInt ∧ x0.toInt ≤ 100)) ∨ (E = eUO ∧ (0 ≤ x0.toInt ∧ x0.toInt ≤ 100) ∧ S 0 1 = 80)) ∧ wE D (va_A (wC q k r S Z) sz) (wC q k r S Z) t) (va_A (wC q k r S Z) sz)) 1 6 (va_A (wC q k r S Z) sz) := by
  refine vx_ofW (cc := cX2_joinEnds) (maxL := 4) (ret := (some .int)) (by decide) rfl ?_
  intro p e s m args below meth c s₁ B hml hno hv
  obtain ⟨rfl, ⟨hsz, hP, hX, hD0⟩, hT, hZ⟩ := hv
  have hx := B.exec
  have hb := B.bytes
  have hr := B.returns
  have hts := atoms_spec (ws := wsX2_joinEnds) B.pre
  have hown : s.vm.findClass RX2 = some m.cls := findClass_of_methodNamed B.named
  have hlocks := B.notSynchronized
  subst hsz
  have hD := hD0.self (sz := s.heap.size)
  generalize hAe : va_A (wC q k r S Z) s.heap.size = A at hD hZ ⊢
  have hA : ∀ q : Nat, s.heap.size ≤ q → A q := fun q h => by rw [← hAe]; exact Or.inr h
  have hS : va_S A s.heap s.heap [] := va_S.rf
  have hP : va_P D vwCl (wC q k r S Z) s.heap := hP
  have hf_12 := hts (.fieldLink RX2 12 "FloorGraph" "floor" "LFloorGraph$Floor;") (by decide +kernel)
  have hf_59 := hts (.fieldLink RX2 59 "FloorGraph" "changes" "I") (by decide +kernel)
  have hf_86 : (Cond.fieldLinkNest "FloorGraph" 86 "FloorGraph$Floor" "passages" "I" "FloorGraph").before _ s = true := va_Nw.use (A := [.ref (q 0), .int (nI s0), .int (nI g0), .int x0].toArray) rfl (hX.2.1 ("FloorGraph", 86, "FloorGraph$Floor", "passages", "I", "FloorGraph") (by decide +kernel))
  have hin_X1 : ∀ w ∈ u_ws RX1 TX1 14, w ∈ wsX2_joinEnds := by decide +kernel
  have hin_X2 : ∀ w ∈ u_ws RX2 TX2 12, w ∈ wsX2_joinEnds := by decide +kernel
  have hg_45 : ∀ w ∈ (vx_atS RX2 45 eIA nm2).filter goodWord, w.before [.ref (q 0), .int (nI s0), .int (nI g0), .int x0].toArray s = true := fun w h => hts w (List.mem_cons_of_mem _ (List.mem_append_left _ (List.mem_append_right _ h)))
  have hg_58 : ∀ w ∈ (vx_atS RX2 58 eUO nm2).filter goodWord, w.before [.ref (q 0), .int (nI s0), .int (nI g0), .int x0].toArray s = true := fun w h => hts w (List.mem_cons_of_mem _ (List.mem_append_right _ h))
  have f0 := hB.1
  have c1 : (nI 100).toInt = 100 := rfl
  have hl := lv_entry ([.ref (q 0), .int (nI s0), .int (nI g0), .int x0]) (n := 4) (Nat.le_of_ble_eq_true rfl)
  rw [lg_entry_eq]
  generalize (lg_sl ([.ref (q 0), .int (nI s0), .int (nI g0), .int x0]) ++ List.replicate (4 - (lg_sl ([.ref (q 0), .int (nI s0), .int (nI g0), .int x0])).length) Slot.unset).toArray = ls at hl ⊢
  have hl : lv_has ls 4 [(0, .ref (q 0)), (1, .int (nI s0)), (2, .int (nI g0)), (3, .int x0)] := hl
  refine lv_iload_n hx hb dX2_joinEnds_0 rfl (lv_at hl 3 rfl) ?_
  refine nr_if_lt (tgt := 10) hx hb dX2_joinEnds_1 (by decide) (fun h_1 => ?_) (fun h_1 => ?_)
  · skip
    exact th_row (is := 183) (text := "seconds out of range") (rest := []) hx hb hst hown (by decide +kernel) (by decide +kernel) (hts (.classLink RX2 41 eIA) (by decide +kernel)) (hts (.initialized eIA) (by decide +kernel)) hT (by decide +kernel) (by decide +kernel) hg_45 bd_IA gd_IA hZ hS (hl.1.trans hml.symm) dX2_joinEnds_10 dX2_joinEnds_13 dX2_joinEnds_14 dX2_joinEnds_16 dX2_joinEnds_19 hno (Nat.le_of_ble_eq_true rfl) (Nat.le_of_ble_eq_true rfl) (Nat.le_of_ble_eq_true rfl) (Nat.le_of_ble_eq_true rfl) hlocks (fun t hvm h1 h2 => ⟨(), trivial, ⟨Or.inl ⟨rfl, fun q => by omega⟩, th_P hP h2, hD⟩, th_F hS h1 h2⟩) hS.2.2 (Nat.le_of_ble_eq_true rfl) (Nat.le_of_ble_eq_true rfl)
  · skip
    refine lv_iload_n hx hb dX2_joinEnds_4 rfl (lv_at hl 3 rfl) ?_
    refine lv_bipush (v := nI 100) hx hb dX2_joinEnds_5 (by decide) ?_
    refine nr_icmp_le (tgt := 20) hx hb dX2_joinEnds_7 (by decide) (fun h_7 => ?_) (fun h_7 => ?_)
    · skip
      refine lv_aload_n hx hb dX2_joinEnds_20 rfl (lv_at hl 0 rfl) ?_
      refine va_get (D := D) (v := .ref (q 1)) hx hb hts hin_X2 hown hX.1 hP 0 rfl rfl 0 (by decide) hf_12 (fun _ h9 => h9) rfl dX2_joinEnds_21 ?_
      refine va_getN (D := D) (v := .int (nI (S 0 1))) hx hb hts hin_X1 hown hX.1 hP 1 rfl rfl 7 (by decide) hf_86 (fun _ h9 => h9) rfl dX2_joinEnds_24 ?_
      refine lv_bipush (v := nI 80) hx hb dX2_joinEnds_27 (by decide) ?_
      refine na_icmp_lt (tgt := 42) hx hb (by omega) (by omega) dX2_joinEnds_29 (by decide) (fun h_29 => ?_) (fun h_29 => ?_)
      · skip
        refine lv_aload_n hx hb dX2_joinEnds_42 rfl (lv_at hl 0 rfl) ?_
        refine lv_dup hx hb dX2_joinEnds_43 rfl ?_
        refine va_get (D := D) (v := .int (nI (S 0 4))) hx hb hts hin_X2 hown hX.1 hP 0 rfl rfl 10 (by decide) hf_59 (fun _ h9 => h9) rfl dX2_joinEnds_44 ?_
        refine lv_iconst (v := nI 1) hx hb dX2_joinEnds_47 (by decide) ?_
        refine na_iadd hx hb dX2_joinEnds_48 ?_
        refine va_put (D := D) (v := .int (nI ((S 0 4) + 1))) (ty := .int) hx hb hts hin_X2 tyX2 tyX2_ok nmX2 hown hX.1 hP hD hS 0 rfl rfl 10 (by decide) hf_59 (fun _ h9 => h9) rfl (by decide +kernel) rfl rfl (Nat.le_of_ble_eq_true rfl) dX2_joinEnds_49 (fun H locs hP hD hS => ?_)
        have hP : va_P D vwCl (wC q k r (up2 S 0 4 ((S 0 4) + 1)) Z) H := sP_C0_10 hP
        have hD : va_D A (wC q k r (up2 S 0 4 ((S 0 4) + 1)) Z) := sD_C0_10 hD
        refine lv_aload_n hx hb dX2_joinEnds_52 rfl (lv_at hl 0 rfl) ?_
        refine va_get (D := D) (v := .ref (q 1)) hx hb hts hin_X2 hown hX.1 hP 0 rfl rfl 0 (by decide) hf_12 (fun _ h9 => h9) rfl dX2_joinEnds_53 ?_
        refine lv_iload_n hx hb dX2_joinEnds_56 rfl (lv_at hl 1 rfl) ?_
        refine lv_iload_n hx hb dX2_joinEnds_57 rfl (lv_at hl 2 rfl) ?_
        refine lv_iload_n hx hb dX2_joinEnds_58 rfl (lv_at hl 3 rfl) ?_
        refine na_as (y := nI (iN x0)) (iN_eq (by omega)) ?_
        refine wr_Ni (As := [.int (nI s0), .int (nI g0), .int (nI (iN x0))]) (rest := []) ⟨hx, hb, hml, hown, hts⟩ (k_X1_addJoin l D q k r (up2 S 0 4 ((S 0 4) + 1)) Z _ s0 g0 (iN x0) (show S 0 1 + 1 < 80 by omega) hs hg hne (hz (by omega)) (hy (by omega))) ⟨va_cnB 3 hts gX2_joinEnds_X1_addJoin_n187 rfl rfl rfl (hX.2.2 ("FloorGraph", 187, yX1_addJoin) (by decide +kernel)) (hts (.initialized RX1) (by decide +kernel)) (by decide +kernel) ⟨by decide, by decide⟩, hts (.instanceMethod yX1_addJoin) (by decide +kernel), hts (.selects RX1 yX1_addJoin yX1_addJoin) (by decide +kernel)⟩ hX hP hD hS hA (q0 := 1) rfl rfl rfl hl.1 rfl (Nat.le_of_ble_eq_true rfl) dX2_joinEnds_59 ⟨Nat.le_of_ble_eq_true rfl, Nat.le_of_ble_eq_true rfl⟩ (fun r_1 u_1 H locs hw_1 hP hD hS => ?_)
        obtain ⟨S_1, Z_1⟩ := u_1
        obtain ⟨e1, e2, e3⟩ := hw_1
        dsimp only at e2 e3 hP hD
        rw [e2, e3] at hP hD
        subst e1
        have hP : va_P D vwCl (wC q k r (addA (addA (up2 S 0 4 ((S 0 4) + 1)) s0 g0 (iN x0)) g0 s0 (iN x0)) (lv2 (up2 S 0 4 ((S 0 4) + 1)) Z s0 g0 (iN x0))) H := hP
        have hD : va_D A (wC q k r (addA (addA (up2 S 0 4 ((S 0 4) + 1)) s0 g0 (iN x0)) g0 s0 (iN x0)) (lv2 (up2 S 0 4 ((S 0 4) + 1)) Z s0 g0 (iN x0))) := hD
        refine vx_ret (W.widen (k := 1) (n := 6) (Nat.le_of_ble_eq_true rfl) (Nat.le_of_ble_eq_true rfl) ?_)
        exact W.iret (v := nI ((up2 S 0 4 ((S 0 4) + 1)) 0 1 / 2)) hx hb hr (fun t ht hW => ⟨⟨_, ((addA (addA (up2 S 0 4 ((S 0 4) + 1)) s0 g0 (iN x0)) g0 s0 (iN x0)), (lv2 (up2 S 0 4 ((S 0 4) + 1)) Z s0 g0 (iN x0))), rfl, ⟨rfl, addJ_ch, lv2_ch, ⟨by omega, by omega⟩, by omega⟩, by rw [ht]; exact hP, hD⟩, hS.F ht⟩) hS.2.2 dX2_joinEnds_62
      · skip
        exact th_row (is := 185) (text := "there are forty joins") (rest := []) hx hb hst hown (by decide +kernel) (by decide +kernel) (hts (.classLink RX2 54 eUO) (by decide +kernel)) (hts (.initialized eUO) (by decide +kernel)) hT (by decide +kernel) (by decide +kernel) hg_58 bd_UO gd_UO hZ hS (hl.1.trans hml.symm) dX2_joinEnds_32 dX2_joinEnds_35 dX2_joinEnds_36 dX2_joinEnds_38 dX2_joinEnds_41 hno (Nat.le_of_ble_eq_true rfl) (Nat.le_of_ble_eq_true rfl) (Nat.le_of_ble_eq_true rfl) (Nat.le_of_ble_eq_true rfl) hlocks (fun t hvm h1 h2 => ⟨(), trivial, ⟨Or.inr ⟨rfl, ⟨by omega, by omega⟩, by omega⟩, th_P hP h2, hD⟩, th_F hS h1 h2⟩) hS.2.2 (Nat.le_of_ble_eq_true rfl) (Nat.le_of_ble_eq_true rfl)
    · skip
      exact th_row (is := 183) (text := "seconds out of range") (rest := []) hx hb hst hown (by decide +kernel) (by decide +kernel) (hts (.classLink RX2 41 eIA) (by decide +kernel)) (hts (.initialized eIA) (by decide +kernel)) hT (by decide +kernel) (by decide +kernel) hg_45 bd_IA gd_IA hZ hS (hl.1.trans hml.symm) dX2_joinEnds_10 dX2_joinEnds_13 dX2_joinEnds_14 dX2_joinEnds_16 dX2_joinEnds_19 hno (Nat.le_of_ble_eq_true rfl) (Nat.le_of_ble_eq_true rfl) (Nat.le_of_ble_eq_true rfl) (Nat.le_of_ble_eq_true rfl) hlocks (fun t hvm h1 h2 => ⟨(), trivial, ⟨Or.inl ⟨rfl, fun q => by omega⟩, th_P hP h2, hD⟩, th_F hS h1 h2⟩) hS.2.2 (Nat.le_of_ble_eq_true rfl) (Nat.le_of_ble_eq_true rfl)

set_option maxHeartbeats 4000000 in
set_option maxRecDepth 100000 in
theorem k_X2_piece (l : Launch) (hst : l.stackTraces = false) (D : va_G) (q : Nat → Nat) (k : Nat → ClassId) (r : Nat → Nat) (S Z : Nat → Nat → Nat) (sz : Nat) (x0 : Int32) (x1 : Int32) (b : Bool) (hB : Bd S) : vx_Met l yX2_piece wsX2_piece ({ frames := 6, cells := 1, slots := 6, locals := 90 } : Room) (va_Pc [.ref (q 0), .int x0, .int x1, .int (nI (bN b))] (tB D k (wC q k r S Z) sz)) (va_Qi (fun (r : Int32) (u : (Nat → Nat → Nat) × (Nat → Nat → Nat)) => cdP S x0 x1 = 0 ∧ r = nI (S 0 0) ∧ u.1 = addP S (iN x0) (iN x1) (bN b) ∧ u.2 = Z) (fun u t => wE D (va_A (wC q k r S Z) sz) (wC q k r u.1 u.2) t) (va_A (wC q k r S Z) sz)) (vx_X (fun _ : Unit => True) (fun E _ t => ((E = eIA ∧ cdP S x0 x1 = 1) ∨ (E = eUO ∧ cdP S x0 x1 = 2)) ∧ wE D (va_A (wC q k r S Z) sz) (wC q k r S Z) t) (va_A (wC q k r S Z) sz)) 1 6 (va_A (wC q k r S Z) sz) := by
  refine vx_ofW (cc := cX2_piece) (maxL := 4) (ret := (some .int)) (by decide) rfl ?_
  intro p e s m args below meth c s₁ B hml hno hv
  obtain ⟨rfl, ⟨hsz, hP, hX, hD0⟩, hT, hZ⟩ := hv
  have hx := B.exec
  have hb := B.bytes
  have hr := B.returns
  have hts := atoms_spec (ws := wsX2_piece) B.pre
  have hown : s.vm.findClass RX2 = some m.cls := findClass_of_methodNamed B.named
  have hlocks := B.notSynchronized
  subst hsz
  have hD := hD0.self (sz := s.heap.size)
  generalize hAe : va_A (wC q k r S Z) s.heap.size = A at hD hZ ⊢
  have hA : ∀ q : Nat, s.heap.size ≤ q → A q := fun q h => by rw [← hAe]; exact Or.inr h
  have hS : va_S A s.heap s.heap [] := va_S.rf
  have hP : va_P D vwCl (wC q k r S Z) s.heap := hP
  have hf_12 := hts (.fieldLink RX2 12 "FloorGraph" "floor" "LFloorGraph$Floor;") (by decide +kernel)
  have hf_50 : (Cond.fieldLinkNest "FloorGraph" 50 "FloorGraph$Floor" "pieces" "I" "FloorGraph").before _ s = true := va_Nw.use (A := [.ref (q 0), .int x0, .int x1, .int (nI (bN b))].toArray) rfl (hX.2.1 ("FloorGraph", 50, "FloorGraph$Floor", "pieces", "I", "FloorGraph") (by decide +kernel))
  have hf_59 := hts (.fieldLink RX2 59 "FloorGraph" "changes" "I") (by decide +kernel)
  have hin_X1 : ∀ w ∈ u_ws RX1 TX1 14, w ∈ wsX2_piece := by decide +kernel
  have hin_X2 : ∀ w ∈ u_ws RX2 TX2 12, w ∈ wsX2_piece := by decide +kernel
  have hg_45 : ∀ w ∈ (vx_atS RX2 45 eIA nm2).filter goodWord, w.before [.ref (q 0), .int x0, .int x1, .int (nI (bN b))].toArray s = true := fun w h => hts w (List.mem_cons_of_mem _ (List.mem_append_left _ (List.mem_append_right _ h)))
  have hg_58 : ∀ w ∈ (vx_atS RX2 58 eUO nm2).filter goodWord, w.before [.ref (q 0), .int x0, .int x1, .int (nI (bN b))].toArray s = true := fun w h => hts w (List.mem_cons_of_mem _ (List.mem_append_right _ h))
  have f0 := hB.1
  have c1 : (nI 9).toInt = 9 := rfl
  have c2 : (nI 1).toInt = 1 := rfl
  have c3 : (nI 1000).toInt = 1000 := rfl
  have hl := lv_entry ([.ref (q 0), .int x0, .int x1, .int (nI (bN b))]) (n := 4) (Nat.le_of_ble_eq_true rfl)
  rw [lg_entry_eq]
  generalize (lg_sl ([.ref (q 0), .int x0, .int x1, .int (nI (bN b))]) ++ List.replicate (4 - (lg_sl ([.ref (q 0), .int x0, .int x1, .int (nI (bN b))])).length) Slot.unset).toArray = ls at hl ⊢
  have hl : lv_has ls 4 [(0, .ref (q 0)), (1, .int x0), (2, .int x1), (3, .int (nI (bN b)))] := hl
  refine lv_iload_n hx hb dX2_piece_0 rfl (lv_at hl 1 rfl) ?_
  refine nr_if_lt (tgt := 10) hx hb dX2_piece_1 (by decide) (fun h_1 => ?_) (fun h_1 => ?_)
  · skip
    exact th_row (is := 43) (text := "no such level") (rest := []) hx hb hst hown (by decide +kernel) (by decide +kernel) (hts (.classLink RX2 41 eIA) (by decide +kernel)) (hts (.initialized eIA) (by decide +kernel)) hT (by decide +kernel) (by decide +kernel) hg_45 bd_IA gd_IA hZ hS (hl.1.trans hml.symm) dX2_piece_10 dX2_piece_13 dX2_piece_14 dX2_piece_16 dX2_piece_19 hno (Nat.le_of_ble_eq_true rfl) (Nat.le_of_ble_eq_true rfl) (Nat.le_of_ble_eq_true rfl) (Nat.le_of_ble_eq_true rfl) hlocks (fun t hvm h1 h2 => ⟨(), trivial, ⟨Or.inl ⟨rfl, cd2_1 (ok := okP x0 x1) (fun q => by unfold okP at q; omega)⟩, th_P hP h2, hD⟩, th_F hS h1 h2⟩) hS.2.2 (Nat.le_of_ble_eq_true rfl) (Nat.le_of_ble_eq_true rfl)
  · skip
    refine lv_iload_n hx hb dX2_piece_4 rfl (lv_at hl 1 rfl) ?_
    refine lv_bipush (v := nI 9) hx hb dX2_piece_5 (by decide) ?_
    refine nr_icmp_le (tgt := 20) hx hb dX2_piece_7 (by decide) (fun h_7 => ?_) (fun h_7 => ?_)
    · skip
      refine lv_iload_n hx hb dX2_piece_20 rfl (lv_at hl 2 rfl) ?_
      refine lv_iconst (v := nI 1) hx hb dX2_piece_21 (by decide) ?_
      refine nr_icmp_lt (tgt := 32) hx hb dX2_piece_22 (by decide) (fun h_22 => ?_) (fun h_22 => ?_)
      · skip
        exact th_row (is := 48) (text := "length out of range") (rest := []) hx hb hst hown (by decide +kernel) (by decide +kernel) (hts (.classLink RX2 41 eIA) (by decide +kernel)) (hts (.initialized eIA) (by decide +kernel)) hT (by decide +kernel) (by decide +kernel) hg_45 bd_IA gd_IA hZ hS (hl.1.trans hml.symm) dX2_piece_32 dX2_piece_35 dX2_piece_36 dX2_piece_38 dX2_piece_41 hno (Nat.le_of_ble_eq_true rfl) (Nat.le_of_ble_eq_true rfl) (Nat.le_of_ble_eq_true rfl) (Nat.le_of_ble_eq_true rfl) hlocks (fun t hvm h1 h2 => ⟨(), trivial, ⟨Or.inl ⟨rfl, cd2_1 (ok := okP x0 x1) (fun q => by unfold okP at q; omega)⟩, th_P hP h2, hD⟩, th_F hS h1 h2⟩) hS.2.2 (Nat.le_of_ble_eq_true rfl) (Nat.le_of_ble_eq_true rfl)
      · skip
        refine lv_iload_n hx hb dX2_piece_25 rfl (lv_at hl 2 rfl) ?_
        refine lv_sipush (v := nI 1000) hx hb dX2_piece_26 (by decide) ?_
        refine nr_icmp_le (tgt := 42) hx hb dX2_piece_29 (by decide) (fun h_29 => ?_) (fun h_29 => ?_)
        · skip
          refine lv_aload_n hx hb dX2_piece_42 rfl (lv_at hl 0 rfl) ?_
          refine va_get (D := D) (v := .ref (q 1)) hx hb hts hin_X2 hown hX.1 hP 0 rfl rfl 0 (by decide) hf_12 (fun _ h9 => h9) rfl dX2_piece_43 ?_
          refine va_getN (D := D) (v := .int (nI (S 0 0))) hx hb hts hin_X1 hown hX.1 hP 1 rfl rfl 0 (by decide) hf_50 (fun _ h9 => h9) rfl dX2_piece_46 ?_
          refine lv_bipush (v := nI 20) hx hb dX2_piece_49 (by decide) ?_
          refine na_icmp_lt (tgt := 64) hx hb (by omega) (by omega) dX2_piece_51 (by decide) (fun h_51 => ?_) (fun h_51 => ?_)
          · skip
            refine lv_aload_n hx hb dX2_piece_64 rfl (lv_at hl 0 rfl) ?_
            refine lv_dup hx hb dX2_piece_65 rfl ?_
            refine va_get (D := D) (v := .int (nI (S 0 4))) hx hb hts hin_X2 hown hX.1 hP 0 rfl rfl 10 (by decide) hf_59 (fun _ h9 => h9) rfl dX2_piece_66 ?_
            refine lv_iconst (v := nI 1) hx hb dX2_piece_69 (by decide) ?_
            refine na_iadd hx hb dX2_piece_70 ?_
            refine va_put (D := D) (v := .int (nI ((S 0 4) + 1))) (ty := .int) hx hb hts hin_X2 tyX2 tyX2_ok nmX2 hown hX.1 hP hD hS 0 rfl rfl 10 (by decide) hf_59 (fun _ h9 => h9) rfl (by decide +kernel) rfl rfl (Nat.le_of_ble_eq_true rfl) dX2_piece_71 (fun H locs hP hD hS => ?_)
            have hP : va_P D vwCl (wC q k r (up2 S 0 4 ((S 0 4) + 1)) Z) H := sP_C0_10 hP
            have hD : va_D A (wC q k r (up2 S 0 4 ((S 0 4) + 1)) Z) := sD_C0_10 hD
            refine lv_aload_n hx hb dX2_piece_74 rfl (lv_at hl 0 rfl) ?_
            refine va_get (D := D) (v := .ref (q 1)) hx hb hts hin_X2 hown hX.1 hP 0 rfl rfl 0 (by decide) hf_12 (fun _ h9 => h9) rfl dX2_piece_75 ?_
            refine lv_iload_n hx hb dX2_piece_78 rfl (lv_at hl 1 rfl) ?_
            refine na_as (y := nI (iN x0)) (iN_eq (by omega)) ?_
            refine lv_iload_n hx hb dX2_piece_79 rfl (lv_at hl 2 rfl) ?_
            refine na_as (y := nI (iN x1)) (iN_eq (by omega)) ?_
            refine lv_iload_n hx hb dX2_piece_80 rfl (lv_at hl 3 rfl) ?_
            refine wr_Ni (As := [.int (nI (iN x0)), .int (nI (iN x1)), .int (nI (bN b))]) (rest := []) ⟨hx, hb, hml, hown, hts⟩ (k_X1_addPiece l D q k r (up2 S 0 4 ((S 0 4) + 1)) Z _ (iN x0) (iN x1) b (show S 0 0 < 20 by omega)) ⟨va_cnB 3 hts gX2_piece_X1_addPiece_n62 rfl rfl rfl (hX.2.2 ("FloorGraph", 62, yX1_addPiece) (by decide +kernel)) (hts (.initialized RX1) (by decide +kernel)) (by decide +kernel) ⟨by decide, by decide⟩, hts (.instanceMethod yX1_addPiece) (by decide +kernel), hts (.selects RX1 yX1_addPiece yX1_addPiece) (by decide +kernel)⟩ hX hP hD hS hA (q0 := 1) rfl rfl rfl hl.1 rfl (Nat.le_of_ble_eq_true rfl) dX2_piece_81 ⟨Nat.le_of_ble_eq_true rfl, Nat.le_of_ble_eq_true rfl⟩ (fun r_1 u_1 H locs hw_1 hP hD hS => ?_)
            obtain ⟨S_1, Z_1⟩ := u_1
            obtain ⟨e1, e2, e3⟩ := hw_1
            dsimp only at e2 e3 hP hD
            rw [e2, e3] at hP hD
            subst e1
            have hP : va_P D vwCl (wC q k r (addQ (up2 S 0 4 ((S 0 4) + 1)) (iN x0) (iN x1) (bN b)) Z) H := hP
            have hD : va_D A (wC q k r (addQ (up2 S 0 4 ((S 0 4) + 1)) (iN x0) (iN x1) (bN b)) Z) := hD
            refine vx_ret (W.widen (k := 1) (n := 6) (Nat.le_of_ble_eq_true rfl) (Nat.le_of_ble_eq_true rfl) ?_)
            exact W.iret (v := nI ((up2 S 0 4 ((S 0 4) + 1)) 0 0)) hx hb hr (fun t ht hW => ⟨⟨_, ((addQ (up2 S 0 4 ((S 0 4) + 1)) (iN x0) (iN x1) (bN b)), Z), rfl, ⟨cd2_0 (ok := okP x0 x1) (full := S 0 0 = 20) (by unfold okP; omega) (by omega), rfl, addQ_ch, rfl⟩, by rw [ht]; exact hP, hD⟩, hS.F ht⟩) hS.2.2 dX2_piece_84
          · skip
            exact th_row (is := 56) (text := "there are twenty pieces") (rest := []) hx hb hst hown (by decide +kernel) (by decide +kernel) (hts (.classLink RX2 54 eUO) (by decide +kernel)) (hts (.initialized eUO) (by decide +kernel)) hT (by decide +kernel) (by decide +kernel) hg_58 bd_UO gd_UO hZ hS (hl.1.trans hml.symm) dX2_piece_54 dX2_piece_57 dX2_piece_58 dX2_piece_60 dX2_piece_63 hno (Nat.le_of_ble_eq_true rfl) (Nat.le_of_ble_eq_true rfl) (Nat.le_of_ble_eq_true rfl) (Nat.le_of_ble_eq_true rfl) hlocks (fun t hvm h1 h2 => ⟨(), trivial, ⟨Or.inr ⟨rfl, cd2_2 (ok := okP x0 x1) (full := S 0 0 = 20) (by unfold okP; omega) (by omega)⟩, th_P hP h2, hD⟩, th_F hS h1 h2⟩) hS.2.2 (Nat.le_of_ble_eq_true rfl) (Nat.le_of_ble_eq_true rfl)
        · skip
          exact th_row (is := 48) (text := "length out of range") (rest := []) hx hb hst hown (by decide +kernel) (by decide +kernel) (hts (.classLink RX2 41 eIA) (by decide +kernel)) (hts (.initialized eIA) (by decide +kernel)) hT (by decide +kernel) (by decide +kernel) hg_45 bd_IA gd_IA hZ hS (hl.1.trans hml.symm) dX2_piece_32 dX2_piece_35 dX2_piece_36 dX2_piece_38 dX2_piece_41 hno (Nat.le_of_ble_eq_true rfl) (Nat.le_of_ble_eq_true rfl) (Nat.le_of_ble_eq_true rfl) (Nat.le_of_ble_eq_true rfl) hlocks (fun t hvm h1 h2 => ⟨(), trivial, ⟨Or.inl ⟨rfl, cd2_1 (ok := okP x0 x1) (fun q => by unfold okP at q; omega)⟩, th_P hP h2, hD⟩, th_F hS h1 h2⟩) hS.2.2 (Nat.le_of_ble_eq_true rfl) (Nat.le_of_ble_eq_true rfl)
    · skip
      exact th_row (is := 43) (text := "no such level") (rest := []) hx hb hst hown (by decide +kernel) (by decide +kernel) (hts (.classLink RX2 41 eIA) (by decide +kernel)) (hts (.initialized eIA) (by decide +kernel)) hT (by decide +kernel) (by decide +kernel) hg_45 bd_IA gd_IA hZ hS (hl.1.trans hml.symm) dX2_piece_10 dX2_piece_13 dX2_piece_14 dX2_piece_16 dX2_piece_19 hno (Nat.le_of_ble_eq_true rfl) (Nat.le_of_ble_eq_true rfl) (Nat.le_of_ble_eq_true rfl) (Nat.le_of_ble_eq_true rfl) hlocks (fun t hvm h1 h2 => ⟨(), trivial, ⟨Or.inl ⟨rfl, cd2_1 (ok := okP x0 x1) (fun q => by unfold okP at q; omega)⟩, th_P hP h2, hD⟩, th_F hS h1 h2⟩) hS.2.2 (Nat.le_of_ble_eq_true rfl) (Nat.le_of_ble_eq_true rfl)

set_option maxHeartbeats 4000000 in
set_option maxRecDepth 100000 in
theorem k_X2_join (l : Launch) (hst : l.stackTraces = false) (D : va_G) (q : Nat → Nat) (k : Nat → ClassId) (r : Nat → Nat) (S Z : Nat → Nat → Nat) (sz : Nat) (x0 : Int32) (x1 : Int32) (x2 : Int32) (x3 : Int32) (x4 : Int32) (hB : Bd S) (hj : S 0 1 % 2 = 0) (hz : ∀ e, e < 40 → S 0 1 < 80 → Z 3 e < 40) : vx_Met l yX2_join wsX2_join ({ frames := 7, cells := 5, slots := 30, locals := 113 } : Room) (va_Pc [.ref (q 0), .int x0, .int x1, .int x2, .int x3, .int x4] (tB D k (wC q k r S Z) sz)) (va_Qi (fun (r : Int32) (u : (Nat → Nat → Nat) × (Nat → Nat → Nat)) => cdJ S x0 x1 x2 x3 x4 = 0 ∧ r = nI (S 0 1 / 2) ∧ u.1 = addJ S (2 * iN x0 + iN x1) (2 * iN x2 + iN x3) (iN x4) ∧ u.2 = lv2 S Z (2 * iN x0 + iN x1) (2 * iN x2 + iN x3) (iN x4)) (fun u t => wE D (va_A (wC q k r S Z) sz) (wC q k r u.1 u.2) t) (va_A (wC q k r S Z) sz)) (vx_X (fun _ : Unit => True) (fun E _ t => ((E = eIA ∧ cdJ S x0 x1 x2 x3 x4 = 1) ∨ (E = eUO ∧ cdJ S x0 x1 x2 x3 x4 = 2)) ∧ wE D (va_A (wC q k r S Z) sz) (wC q k r S Z) t) (va_A (wC q k r S Z) sz)) 5 30 (va_A (wC q k r S Z) sz) := by
  refine vx_ofW (cc := cX2_join) (maxL := 6) (ret := (some .int)) (by decide) rfl ?_
  intro p e s m args below meth c s₁ B hml hno hv
  obtain ⟨rfl, ⟨hsz, hP, hX, hD0⟩, hT, hZ⟩ := hv
  have hx := B.exec
  have hb := B.bytes
  have hr := B.returns
  have hts := atoms_spec (ws := wsX2_join) B.pre
  have hown : s.vm.findClass RX2 = some m.cls := findClass_of_methodNamed B.named
  have hlocks := B.notSynchronized
  subst hsz
  have hD := hD0.self (sz := s.heap.size)
  generalize hAe : va_A (wC q k r S Z) s.heap.size = A at hD hZ ⊢
  have hA : ∀ q : Nat, s.heap.size ≤ q → A q := fun q h => by rw [← hAe]; exact Or.inr h
  have hS : va_S A s.heap s.heap [] := va_S.rf
  have hP : va_P D vwCl (wC q k r S Z) s.heap := hP
  have hf_12 := hts (.fieldLink RX2 12 "FloorGraph" "floor" "LFloorGraph$Floor;") (by decide +kernel)
  have hf_75 : (Cond.fieldLinkNest "FloorGraph" 75 "FloorGraph$Floor" "levels" "[I" "FloorGraph").before _ s = true := va_Nw.use (A := [.ref (q 0), .int x0, .int x1, .int x2, .int x3, .int x4].toArray) rfl (hX.2.1 ("FloorGraph", 75, "FloorGraph$Floor", "levels", "[I", "FloorGraph") (by decide +kernel))
  have hin_X1 : ∀ w ∈ u_ws RX1 TX1 14, w ∈ wsX2_join := by decide +kernel
  have hin_X2 : ∀ w ∈ u_ws RX2 TX2 12, w ∈ wsX2_join := by decide +kernel
  have hg_45 : ∀ w ∈ (vx_atS RX2 45 eIA nm2).filter goodWord, w.before [.ref (q 0), .int x0, .int x1, .int x2, .int x3, .int x4].toArray s = true := fun w h => hts w (List.mem_cons_of_mem _ (List.mem_append_left _ (List.mem_append_right _ h)))
  have f0 := hB.1
  have hl := lv_entry ([.ref (q 0), .int x0, .int x1, .int x2, .int x3, .int x4]) (n := 6) (Nat.le_of_ble_eq_true rfl)
  rw [lg_entry_eq]
  generalize (lg_sl ([.ref (q 0), .int x0, .int x1, .int x2, .int x3, .int x4]) ++ List.replicate (6 - (lg_sl ([.ref (q 0), .int x0, .int x1, .int x2, .int x3, .int x4])).length) Slot.unset).toArray = ls at hl ⊢
  have hl : lv_has ls 6 [(0, .ref (q 0)), (1, .int x0), (2, .int x1), (3, .int x2), (4, .int x3), (5, .int x4)] := hl
  refine lv_aload_n hx hb dX2_join_0 rfl (lv_at hl 0 rfl) ?_
  refine lv_iload_n hx hb dX2_join_1 rfl (lv_at hl 1 rfl) ?_
  refine xr_Vv (As := [.int x0]) (rest := []) ⟨hx, hb, hml, hown, hts⟩ (k_X2_needPiece l hst D q k r S Z _ x0 hB) (cwV 1 hts gX2_join_X2_needPiece rfl rfl rfl (by decide +kernel) ⟨by decide, by decide⟩) hX hT hZ hP hD hS hA (q0 := 0) rfl rfl rfl hl.1 rfl (Nat.le_of_ble_eq_true rfl) dX2_join_2 ⟨(Nat.le_of_ble_eq_true rfl), (Nat.le_of_ble_eq_true rfl)⟩ hno hlocks (Nat.le_of_ble_eq_true rfl) (Nat.le_of_ble_eq_true rfl) (fun _ h => h) (fun E u t _ hxe hvm hP9 hD9 hF9 => ⟨(), trivial, ⟨Or.inl ⟨hxe.1, cd2_1 (ok := okJ S x0 x1 x2 x3 x4) (fun q => hxe.2 q.1)⟩, hP9, hD9⟩, hF9⟩) (fun u_1 H locs hw_1 hP hD hS => ?_)
  obtain ⟨S_1, Z_1⟩ := u_1
  obtain ⟨e1, e2, hk_1⟩ := hw_1
  dsimp only at e1 e2 hP hD
  rw [e1, e2] at hP hD
  have hP : va_P D vwCl (wC q k r S Z) H := hP
  have hD : va_D A (wC q k r S Z) := hD
  refine lv_aload_n hx hb dX2_join_5 rfl (lv_at hl 0 rfl) ?_
  refine lv_iload_n hx hb dX2_join_6 rfl (lv_at hl 3 rfl) ?_
  refine xr_Vv (As := [.int x2]) (rest := []) ⟨hx, hb, hml, hown, hts⟩ (k_X2_needPiece l hst D q k r S Z _ x2 hB) (cwV 1 hts gX2_join_X2_needPiece rfl rfl rfl (by decide +kernel) ⟨by decide, by decide⟩) hX hT hZ hP hD hS hA (q0 := 0) rfl rfl rfl hl.1 rfl (Nat.le_of_ble_eq_true rfl) dX2_join_7 ⟨(Nat.le_of_ble_eq_true rfl), (Nat.le_of_ble_eq_true rfl)⟩ hno hlocks (Nat.le_of_ble_eq_true rfl) (Nat.le_of_ble_eq_true rfl) (fun _ h => h) (fun E u t _ hxe hvm hP9 hD9 hF9 => ⟨(), trivial, ⟨Or.inl ⟨hxe.1, cd2_1 (ok := okJ S x0 x1 x2 x3 x4) (fun q => hxe.2 q.2.1)⟩, hP9, hD9⟩, hF9⟩) (fun u_2 H locs hw_2 hP hD hS => ?_)
  obtain ⟨S_2, Z_2⟩ := u_2
  obtain ⟨e1, e2, hk_2⟩ := hw_2
  dsimp only at e1 e2 hP hD
  rw [e1, e2] at hP hD
  have hP : va_P D vwCl (wC q k r S Z) H := hP
  have hD : va_D A (wC q k r S Z) := hD
  refine lv_iload_n hx hb dX2_join_10 rfl (lv_at hl 2 rfl) ?_
  refine xr_Sv (As := [.int x1]) (rest := []) ⟨hx, hb, hml, hown, hts⟩ (k_X2_needZeroOrOne l hst _ x1 ) (va_cwS 1 hts gX2_join_X2_needZeroOrOne rfl rfl rfl (by decide +kernel) ⟨by decide, by decide⟩) hT hZ hP hS hA rfl hl.1 rfl (Nat.le_of_ble_eq_true rfl) dX2_join_11 ⟨(Nat.le_of_ble_eq_true rfl), (Nat.le_of_ble_eq_true rfl)⟩ hno hlocks (Nat.le_of_ble_eq_true rfl) (Nat.le_of_ble_eq_true rfl) (fun _ h => h) (fun E t hok hxe hvm hP9 hF9 => ⟨(), trivial, ⟨Or.inl ⟨hxe, cd2_1 (ok := okJ S x0 x1 x2 x3 x4) (fun q => hok q.2.2.1)⟩, hP9, hD⟩, hF9⟩) (fun H locs hw_3 hP hS => ?_)
  have hP : va_P D vwCl (wC q k r S Z) H := hP
  refine lv_iload hx hb dX2_join_14 (lv_at hl 4 rfl) ?_
  refine xr_Sv (As := [.int x3]) (rest := []) ⟨hx, hb, hml, hown, hts⟩ (k_X2_needZeroOrOne l hst _ x3 ) (va_cwS 1 hts gX2_join_X2_needZeroOrOne rfl rfl rfl (by decide +kernel) ⟨by decide, by decide⟩) hT hZ hP hS hA rfl hl.1 rfl (Nat.le_of_ble_eq_true rfl) dX2_join_16 ⟨(Nat.le_of_ble_eq_true rfl), (Nat.le_of_ble_eq_true rfl)⟩ hno hlocks (Nat.le_of_ble_eq_true rfl) (Nat.le_of_ble_eq_true rfl) (fun _ h => h) (fun E t hok hxe hvm hP9 hF9 => ⟨(), trivial, ⟨Or.inl ⟨hxe, cd2_1 (ok := okJ S x0 x1 x2 x3 x4) (fun q => hok q.2.2.2.1)⟩, hP9, hD⟩, hF9⟩) (fun H locs hw_4 hP hS => ?_)
  have hP : va_P D vwCl (wC q k r S Z) H := hP
  refine lv_iload_n hx hb dX2_join_19 rfl (lv_at hl 1 rfl) ?_
  refine lv_iload_n hx hb dX2_join_20 rfl (lv_at hl 3 rfl) ?_
  refine nr_icmp_ne (tgt := 34) hx hb dX2_join_21 (by decide) (fun h_21 => ?_) (fun h_21 => ?_)
  · skip
    have l0 := hk_1.lt
    have l2 := hk_2.lt
    have j0 := iN_toInt (x := x0) hk_1.1
    have j2 := iN_toInt (x := x2) hk_2.1
    have j1 := iN_toInt (x := x1) hw_3.1
    have j3 := iN_toInt (x := x3) hw_4.1
    have fl0 := (hB.2.1 (iN x0)).1
    have fl2 := (hB.2.1 (iN x2)).1
    refine lv_aload_n hx hb dX2_join_34 rfl (lv_at hl 0 rfl) ?_
    refine va_get (D := D) (v := .ref (q 1)) hx hb hts hin_X2 hown hX.1 hP 0 rfl rfl 0 (by decide) hf_12 (fun _ h9 => h9) rfl dX2_join_35 ?_
    refine va_getN (D := D) (v := .ref (q 3)) hx hb hts hin_X1 hown hX.1 hP 1 rfl rfl 1 (by decide) hf_75 (fun _ h9 => h9) rfl dX2_join_38 ?_
    refine lv_iload_n hx hb dX2_join_41 rfl (lv_at hl 1 rfl) ?_
    refine na_as (y := nI (iN x0)) (iN_eq hk_1.1) ?_
    refine na_iald hx hb hX.1 hP 3 0 rfl rfl (by omega) (by decide) dX2_join_42 ?_
    refine lv_aload_n hx hb dX2_join_43 rfl (lv_at hl 0 rfl) ?_
    refine va_get (D := D) (v := .ref (q 1)) hx hb hts hin_X2 hown hX.1 hP 0 rfl rfl 0 (by decide) hf_12 (fun _ h9 => h9) rfl dX2_join_44 ?_
    refine va_getN (D := D) (v := .ref (q 3)) hx hb hts hin_X1 hown hX.1 hP 1 rfl rfl 1 (by decide) hf_75 (fun _ h9 => h9) rfl dX2_join_47 ?_
    refine lv_iload_n hx hb dX2_join_50 rfl (lv_at hl 3 rfl) ?_
    refine na_as (y := nI (iN x2)) (iN_eq hk_2.1) ?_
    refine na_iald hx hb hX.1 hP 3 0 rfl rfl (by omega) (by decide) dX2_join_51 ?_
    refine na_icmp_eq (tgt := 65) hx hb (by omega) (by omega) dX2_join_52 (by decide) (fun h_52 => ?_) (fun h_52 => ?_)
    · skip
      refine lv_aload_n hx hb dX2_join_65 rfl (lv_at hl 0 rfl) ?_
      refine lv_iconst (v := nI 2) hx hb dX2_join_66 (by decide) ?_
      refine lv_iload_n hx hb dX2_join_67 rfl (lv_at hl 1 rfl) ?_
      refine na_as (y := nI (iN x0)) (iN_eq hk_1.1) ?_
      refine na_imul hx hb dX2_join_68 ?_
      refine lv_iload_n hx hb dX2_join_69 rfl (lv_at hl 2 rfl) ?_
      refine na_as (y := nI (iN x1)) (iN_eq hw_3.1) ?_
      refine na_iadd hx hb dX2_join_70 ?_
      refine lv_iconst (v := nI 2) hx hb dX2_join_71 (by decide) ?_
      refine lv_iload_n hx hb dX2_join_72 rfl (lv_at hl 3 rfl) ?_
      refine na_as (y := nI (iN x2)) (iN_eq hk_2.1) ?_
      refine na_imul hx hb dX2_join_73 ?_
      refine lv_iload hx hb dX2_join_74 (lv_at hl 4 rfl) ?_
      refine na_as (y := nI (iN x3)) (iN_eq hw_4.1) ?_
      refine na_iadd hx hb dX2_join_76 ?_
      refine lv_iload hx hb dX2_join_77 (lv_at hl 5 rfl) ?_
      refine xr_Vi (As := [.int (nI ((2 * (iN x0)) + (iN x1))), .int (nI ((2 * (iN x2)) + (iN x3))), .int x4]) (rest := []) ⟨hx, hb, hml, hown, hts⟩ (k_X2_joinEnds l hst D q k r S Z _ ((2 * (iN x0)) + (iN x1)) ((2 * (iN x2)) + (iN x3)) x4 hB hj (by omega) (by omega) (by omega) (hz _ (by omega)) (hz _ (by omega))) (cwV 3 hts gX2_join_X2_joinEnds rfl rfl rfl (by decide +kernel) ⟨by decide, by decide⟩) hX hT hZ hP hD hS hA (q0 := 0) rfl rfl rfl hl.1 rfl (Nat.le_of_ble_eq_true rfl) dX2_join_79 ⟨(Nat.le_of_ble_eq_true rfl), (Nat.le_of_ble_eq_true rfl)⟩ hno hlocks (Nat.le_of_ble_eq_true rfl) (Nat.le_of_ble_eq_true rfl) (fun _ h => h) (fun E u t _ hxe hvm hP9 hD9 hF9 => ⟨(), trivial, ⟨hxe.elim (fun z => Or.inl ⟨z.1, cd2_1 (ok := okJ S x0 x1 x2 x3 x4) (fun q => z.2 q.2.2.2.2.2.1)⟩) (fun z => Or.inr ⟨z.1, cd2_2 (ok := okJ S x0 x1 x2 x3 x4) (full := S 0 1 = 80) ⟨hk_1, hk_2, hw_3, hw_4, h_21, z.2.1, h_52⟩ z.2.2⟩), hP9, hD9⟩, hF9⟩) (fun r_5 u_5 H locs hw_5 hP hD hS => ?_)
      obtain ⟨S_5, Z_5⟩ := u_5
      obtain ⟨e1, e2, e3, hk_5⟩ := hw_5
      dsimp only at e2 e3 hP hD
      rw [e2, e3] at hP hD
      subst e1
      have hP : va_P D vwCl (wC q k r (addJ S ((2 * (iN x0)) + (iN x1)) ((2 * (iN x2)) + (iN x3)) (iN x4)) (lv2 S Z ((2 * (iN x0)) + (iN x1)) ((2 * (iN x2)) + (iN x3)) (iN x4))) H := hP
      have hD : va_D A (wC q k r (addJ S ((2 * (iN x0)) + (iN x1)) ((2 * (iN x2)) + (iN x3)) (iN x4)) (lv2 S Z ((2 * (iN x0)) + (iN x1)) ((2 * (iN x2)) + (iN x3)) (iN x4))) := hD
      refine vx_ret (W.widen (k := 5) (n := 30) (Nat.le_of_ble_eq_true rfl) (Nat.le_of_ble_eq_true rfl) ?_)
      exact W.iret (v := nI (S 0 1 / 2)) hx hb hr (fun t ht hW => ⟨⟨_, ((addJ S ((2 * (iN x0)) + (iN x1)) ((2 * (iN x2)) + (iN x3)) (iN x4)), (lv2 S Z ((2 * (iN x0)) + (iN x1)) ((2 * (iN x2)) + (iN x3)) (iN x4))), rfl, ⟨cd2_0 (ok := okJ S x0 x1 x2 x3 x4) (full := S 0 1 = 80) ⟨hk_1, hk_2, hw_3, hw_4, h_21, hk_5.1, h_52⟩ (by have := hk_5.2; omega), rfl, rfl, rfl⟩, by rw [ht]; exact hP, hD⟩, hS.F ht⟩) hS.2.2 dX2_join_82
    · skip
      exact th_row (is := 78) (text := "pieces of different levels") (rest := []) hx hb hst hown (by decide +kernel) (by decide +kernel) (hts (.classLink RX2 41 eIA) (by decide +kernel)) (hts (.initialized eIA) (by decide +kernel)) hT (by decide +kernel) (by decide +kernel) hg_45 bd_IA gd_IA hZ hS (hl.1.trans hml.symm) dX2_join_55 dX2_join_58 dX2_join_59 dX2_join_61 dX2_join_64 hno (Nat.le_of_ble_eq_true rfl) (Nat.le_of_ble_eq_true rfl) (Nat.le_of_ble_eq_true rfl) (Nat.le_of_ble_eq_true rfl) hlocks (fun t hvm h1 h2 => ⟨(), trivial, ⟨Or.inl ⟨rfl, cd2_1 (ok := okJ S x0 x1 x2 x3 x4) (fun q => h_52 q.2.2.2.2.2.2)⟩, th_P hP h2, hD⟩, th_F hS h1 h2⟩) hS.2.2 (Nat.le_of_ble_eq_true rfl) (Nat.le_of_ble_eq_true rfl)
  · skip
    exact th_row (is := 73) (text := "a piece is not joined to itself") (rest := []) hx hb hst hown (by decide +kernel) (by decide +kernel) (hts (.classLink RX2 41 eIA) (by decide +kernel)) (hts (.initialized eIA) (by decide +kernel)) hT (by decide +kernel) (by decide +kernel) hg_45 bd_IA gd_IA hZ hS (hl.1.trans hml.symm) dX2_join_24 dX2_join_27 dX2_join_28 dX2_join_30 dX2_join_33 hno (Nat.le_of_ble_eq_true rfl) (Nat.le_of_ble_eq_true rfl) (Nat.le_of_ble_eq_true rfl) (Nat.le_of_ble_eq_true rfl) hlocks (fun t hvm h1 h2 => ⟨(), trivial, ⟨Or.inl ⟨rfl, cd2_1 (ok := okJ S x0 x1 x2 x3 x4) (fun q => q.2.2.2.2.1 h_21)⟩, th_P hP h2, hD⟩, th_F hS h1 h2⟩) hS.2.2 (Nat.le_of_ble_eq_true rfl) (Nat.le_of_ble_eq_true rfl)

set_option maxHeartbeats 4000000 in
set_option maxRecDepth 100000 in
theorem k_X2_lift (l : Launch) (hst : l.stackTraces = false) (D : va_G) (q : Nat → Nat) (k : Nat → ClassId) (r : Nat → Nat) (S Z : Nat → Nat → Nat) (sz : Nat) (x0 : Int32) (x1 : Int32) (x2 : Int32) (hB : Bd S) (hj : S 0 1 % 2 = 0) (hz : ∀ e, e < 40 → S 0 1 < 80 → Z 3 e < 40) : vx_Met l yX2_lift wsX2_lift ({ frames := 7, cells := 3, slots := 18, locals := 113 } : Room) (va_Pc [.ref (q 0), .int x0, .int x1, .int x2] (tB D k (wC q k r S Z) sz)) (va_Qi (fun (r : Int32) (u : (Nat → Nat → Nat) × (Nat → Nat → Nat)) => cdL S x0 x1 x2 = 0 ∧ r = nI (S 0 1 / 2) ∧ u.1 = addJ S (2 * iN x0 + 1) (2 * iN x1 + 1) (iN x2) ∧ u.2 = lv2 S Z (2 * iN x0 + 1) (2 * iN x1 + 1) (iN x2)) (fun u t => wE D (va_A (wC q k r S Z) sz) (wC q k r u.1 u.2) t) (va_A (wC q k r S Z) sz)) (vx_X (fun _ : Unit => True) (fun E _ t => ((E = eIA ∧ cdL S x0 x1 x2 = 1) ∨ (E = eUO ∧ cdL S x0 x1 x2 = 2)) ∧ wE D (va_A (wC q k r S Z) sz) (wC q k r S Z) t) (va_A (wC q k r S Z) sz)) 3 18 (va_A (wC q k r S Z) sz) := by
  refine vx_ofW (cc := cX2_lift) (maxL := 4) (ret := (some .int)) (by decide) rfl ?_
  intro p e s m args below meth c s₁ B hml hno hv
  obtain ⟨rfl, ⟨hsz, hP, hX, hD0⟩, hT, hZ⟩ := hv
  have hx := B.exec
  have hb := B.bytes
  have hr := B.returns
  have hts := atoms_spec (ws := wsX2_lift) B.pre
  have hown : s.vm.findClass RX2 = some m.cls := findClass_of_methodNamed B.named
  have hlocks := B.notSynchronized
  subst hsz
  have hD := hD0.self (sz := s.heap.size)
  generalize hAe : va_A (wC q k r S Z) s.heap.size = A at hD hZ ⊢
  have hA : ∀ q : Nat, s.heap.size ≤ q → A q := fun q h => by rw [← hAe]; exact Or.inr h
  have hS : va_S A s.heap s.heap [] := va_S.rf
  have hP : va_P D vwCl (wC q k r S Z) s.heap := hP
  have hf_12 := hts (.fieldLink RX2 12 "FloorGraph" "floor" "LFloorGraph$Floor;") (by decide +kernel)
  have hf_75 : (Cond.fieldLinkNest "FloorGraph" 75 "FloorGraph$Floor" "levels" "[I" "FloorGraph").before _ s = true := va_Nw.use (A := [.ref (q 0), .int x0, .int x1, .int x2].toArray) rfl (hX.2.1 ("FloorGraph", 75, "FloorGraph$Floor", "levels", "[I", "FloorGraph") (by decide +kernel))
  have hin_X1 : ∀ w ∈ u_ws RX1 TX1 14, w ∈ wsX2_lift := by decide +kernel
  have hin_X2 : ∀ w ∈ u_ws RX2 TX2 12, w ∈ wsX2_lift := by decide +kernel
  have hg_45 : ∀ w ∈ (vx_atS RX2 45 eIA nm2).filter goodWord, w.before [.ref (q 0), .int x0, .int x1, .int x2].toArray s = true := fun w h => hts w (List.mem_cons_of_mem _ (List.mem_append_left _ (List.mem_append_right _ h)))
  have f0 := hB.1
  have hl := lv_entry ([.ref (q 0), .int x0, .int x1, .int x2]) (n := 4) (Nat.le_of_ble_eq_true rfl)
  rw [lg_entry_eq]
  generalize (lg_sl ([.ref (q 0), .int x0, .int x1, .int x2]) ++ List.replicate (4 - (lg_sl ([.ref (q 0), .int x0, .int x1, .int x2])).length) Slot.unset).toArray = ls at hl ⊢
  have hl : lv_has ls 4 [(0, .ref (q 0)), (1, .int x0), (2, .int x1), (3, .int x2)] := hl
  refine lv_aload_n hx hb dX2_lift_0 rfl (lv_at hl 0 rfl) ?_
  refine lv_iload_n hx hb dX2_lift_1 rfl (lv_at hl 1 rfl) ?_
  refine xr_Vv (As := [.int x0]) (rest := []) ⟨hx, hb, hml, hown, hts⟩ (k_X2_needPiece l hst D q k r S Z _ x0 hB) (cwV 1 hts gX2_lift_X2_needPiece rfl rfl rfl (by decide +kernel) ⟨by decide, by decide⟩) hX hT hZ hP hD hS hA (q0 := 0) rfl rfl rfl hl.1 rfl (Nat.le_of_ble_eq_true rfl) dX2_lift_2 ⟨(Nat.le_of_ble_eq_true rfl), (Nat.le_of_ble_eq_true rfl)⟩ hno hlocks (Nat.le_of_ble_eq_true rfl) (Nat.le_of_ble_eq_true rfl) (fun _ h => h) (fun E u t _ hxe hvm hP9 hD9 hF9 => ⟨(), trivial, ⟨Or.inl ⟨hxe.1, cd2_1 (ok := okL S x0 x1 x2) (fun q => hxe.2 q.1)⟩, hP9, hD9⟩, hF9⟩) (fun u_1 H locs hw_1 hP hD hS => ?_)
  obtain ⟨S_1, Z_1⟩ := u_1
  obtain ⟨e1, e2, hk_1⟩ := hw_1
  dsimp only at e1 e2 hP hD
  rw [e1, e2] at hP hD
  have hP : va_P D vwCl (wC q k r S Z) H := hP
  have hD : va_D A (wC q k r S Z) := hD
  refine lv_aload_n hx hb dX2_lift_5 rfl (lv_at hl 0 rfl) ?_
  refine lv_iload_n hx hb dX2_lift_6 rfl (lv_at hl 2 rfl) ?_
  refine xr_Vv (As := [.int x1]) (rest := []) ⟨hx, hb, hml, hown, hts⟩ (k_X2_needPiece l hst D q k r S Z _ x1 hB) (cwV 1 hts gX2_lift_X2_needPiece rfl rfl rfl (by decide +kernel) ⟨by decide, by decide⟩) hX hT hZ hP hD hS hA (q0 := 0) rfl rfl rfl hl.1 rfl (Nat.le_of_ble_eq_true rfl) dX2_lift_7 ⟨(Nat.le_of_ble_eq_true rfl), (Nat.le_of_ble_eq_true rfl)⟩ hno hlocks (Nat.le_of_ble_eq_true rfl) (Nat.le_of_ble_eq_true rfl) (fun _ h => h) (fun E u t _ hxe hvm hP9 hD9 hF9 => ⟨(), trivial, ⟨Or.inl ⟨hxe.1, cd2_1 (ok := okL S x0 x1 x2) (fun q => hxe.2 q.2.1)⟩, hP9, hD9⟩, hF9⟩) (fun u_2 H locs hw_2 hP hD hS => ?_)
  obtain ⟨S_2, Z_2⟩ := u_2
  obtain ⟨e1, e2, hk_2⟩ := hw_2
  dsimp only at e1 e2 hP hD
  rw [e1, e2] at hP hD
  have hP : va_P D vwCl (wC q k r S Z) H := hP
  have hD : va_D A (wC q k r S Z) := hD
  have l0 := hk_1.lt
  have l2 := hk_2.lt
  have j0 := iN_toInt (x := x0) hk_1.1
  have j2 := iN_toInt (x := x1) hk_2.1
  have fl0 := (hB.2.1 (iN x0)).1
  have fl2 := (hB.2.1 (iN x1)).1
  refine lv_aload_n hx hb dX2_lift_10 rfl (lv_at hl 0 rfl) ?_
  refine va_get (D := D) (v := .ref (q 1)) hx hb hts hin_X2 hown hX.1 hP 0 rfl rfl 0 (by decide) hf_12 (fun _ h9 => h9) rfl dX2_lift_11 ?_
  refine va_getN (D := D) (v := .ref (q 3)) hx hb hts hin_X1 hown hX.1 hP 1 rfl rfl 1 (by decide) hf_75 (fun _ h9 => h9) rfl dX2_lift_14 ?_
  refine lv_iload_n hx hb dX2_lift_17 rfl (lv_at hl 1 rfl) ?_
  refine na_as (y := nI (iN x0)) (iN_eq hk_1.1) ?_
  refine na_iald hx hb hX.1 hP 3 0 rfl rfl (by omega) (by decide) dX2_lift_18 ?_
  refine lv_aload_n hx hb dX2_lift_19 rfl (lv_at hl 0 rfl) ?_
  refine va_get (D := D) (v := .ref (q 1)) hx hb hts hin_X2 hown hX.1 hP 0 rfl rfl 0 (by decide) hf_12 (fun _ h9 => h9) rfl dX2_lift_20 ?_
  refine va_getN (D := D) (v := .ref (q 3)) hx hb hts hin_X1 hown hX.1 hP 1 rfl rfl 1 (by decide) hf_75 (fun _ h9 => h9) rfl dX2_lift_23 ?_
  refine lv_iload_n hx hb dX2_lift_26 rfl (lv_at hl 2 rfl) ?_
  refine na_as (y := nI (iN x1)) (iN_eq hk_2.1) ?_
  refine na_iald hx hb hX.1 hP 3 0 rfl rfl (by omega) (by decide) dX2_lift_27 ?_
  refine na_icmp_ne (tgt := 41) hx hb (by omega) (by omega) dX2_lift_28 (by decide) (fun h_28 => ?_) (fun h_28 => ?_)
  · skip
    have hne : 2 * iN x0 + 1 ≠ 2 * iN x1 + 1 := fun q => h_28 (by rw [show iN x0 = iN x1 by omega])
    refine lv_aload_n hx hb dX2_lift_41 rfl (lv_at hl 0 rfl) ?_
    refine lv_iconst (v := nI 2) hx hb dX2_lift_42 (by decide) ?_
    refine lv_iload_n hx hb dX2_lift_43 rfl (lv_at hl 1 rfl) ?_
    refine na_as (y := nI (iN x0)) (iN_eq hk_1.1) ?_
    refine na_imul hx hb dX2_lift_44 ?_
    refine lv_iconst (v := nI 1) hx hb dX2_lift_45 (by decide) ?_
    refine na_iadd hx hb dX2_lift_46 ?_
    refine lv_iconst (v := nI 2) hx hb dX2_lift_47 (by decide) ?_
    refine lv_iload_n hx hb dX2_lift_48 rfl (lv_at hl 2 rfl) ?_
    refine na_as (y := nI (iN x1)) (iN_eq hk_2.1) ?_
    refine na_imul hx hb dX2_lift_49 ?_
    refine lv_iconst (v := nI 1) hx hb dX2_lift_50 (by decide) ?_
    refine na_iadd hx hb dX2_lift_51 ?_
    refine lv_iload_n hx hb dX2_lift_52 rfl (lv_at hl 3 rfl) ?_
    refine xr_Vi (As := [.int (nI ((2 * (iN x0)) + 1)), .int (nI ((2 * (iN x1)) + 1)), .int x2]) (rest := []) ⟨hx, hb, hml, hown, hts⟩ (k_X2_joinEnds l hst D q k r S Z _ ((2 * (iN x0)) + 1) ((2 * (iN x1)) + 1) x2 hB hj (by omega) (by omega) hne (hz _ (by omega)) (hz _ (by omega))) (cwV 3 hts gX2_lift_X2_joinEnds rfl rfl rfl (by decide +kernel) ⟨by decide, by decide⟩) hX hT hZ hP hD hS hA (q0 := 0) rfl rfl rfl hl.1 rfl (Nat.le_of_ble_eq_true rfl) dX2_lift_53 ⟨(Nat.le_of_ble_eq_true rfl), (Nat.le_of_ble_eq_true rfl)⟩ hno hlocks (Nat.le_of_ble_eq_true rfl) (Nat.le_of_ble_eq_true rfl) (fun _ h => h) (fun E u t _ hxe hvm hP9 hD9 hF9 => ⟨(), trivial, ⟨hxe.elim (fun z => Or.inl ⟨z.1, cd2_1 (ok := okL S x0 x1 x2) (fun q => z.2 q.2.2.1)⟩) (fun z => Or.inr ⟨z.1, cd2_2 (ok := okL S x0 x1 x2) (full := S 0 1 = 80) ⟨hk_1, hk_2, z.2.1, h_28⟩ z.2.2⟩), hP9, hD9⟩, hF9⟩) (fun r_3 u_3 H locs hw_3 hP hD hS => ?_)
    obtain ⟨S_3, Z_3⟩ := u_3
    obtain ⟨e1, e2, e3, hk_3⟩ := hw_3
    dsimp only at e2 e3 hP hD
    rw [e2, e3] at hP hD
    subst e1
    have hP : va_P D vwCl (wC q k r (addJ S ((2 * (iN x0)) + 1) ((2 * (iN x1)) + 1) (iN x2)) (lv2 S Z ((2 * (iN x0)) + 1) ((2 * (iN x1)) + 1) (iN x2))) H := hP
    have hD : va_D A (wC q k r (addJ S ((2 * (iN x0)) + 1) ((2 * (iN x1)) + 1) (iN x2)) (lv2 S Z ((2 * (iN x0)) + 1) ((2 * (iN x1)) + 1) (iN x2))) := hD
    refine vx_ret (W.widen (k := 3) (n := 18) (Nat.le_of_ble_eq_true rfl) (Nat.le_of_ble_eq_true rfl) ?_)
    exact W.iret (v := nI (S 0 1 / 2)) hx hb hr (fun t ht hW => ⟨⟨_, ((addJ S ((2 * (iN x0)) + 1) ((2 * (iN x1)) + 1) (iN x2)), (lv2 S Z ((2 * (iN x0)) + 1) ((2 * (iN x1)) + 1) (iN x2))), rfl, ⟨cd2_0 (ok := okL S x0 x1 x2) (full := S 0 1 = 80) ⟨hk_1, hk_2, hk_3.1, h_28⟩ (by have := hk_3.2; omega), rfl, rfl, rfl⟩, by rw [ht]; exact hP, hD⟩, hS.F ht⟩) hS.2.2 dX2_lift_56
  · skip
    exact th_row (is := 84) (text := "pieces of one level") (rest := []) hx hb hst hown (by decide +kernel) (by decide +kernel) (hts (.classLink RX2 41 eIA) (by decide +kernel)) (hts (.initialized eIA) (by decide +kernel)) hT (by decide +kernel) (by decide +kernel) hg_45 bd_IA gd_IA hZ hS (hl.1.trans hml.symm) dX2_lift_31 dX2_lift_34 dX2_lift_35 dX2_lift_37 dX2_lift_40 hno (Nat.le_of_ble_eq_true rfl) (Nat.le_of_ble_eq_true rfl) (Nat.le_of_ble_eq_true rfl) (Nat.le_of_ble_eq_true rfl) hlocks (fun t hvm h1 h2 => ⟨(), trivial, ⟨Or.inl ⟨rfl, cd2_1 (ok := okL S x0 x1 x2) (fun q => q.2.2.2 h_28)⟩, th_P hP h2, hD⟩, th_F hS h1 h2⟩) hS.2.2 (Nat.le_of_ble_eq_true rfl) (Nat.le_of_ble_eq_true rfl)

set_option maxHeartbeats 4000000 in
set_option maxRecDepth 100000 in
theorem k_X2_turn (l : Launch) (hst : l.stackTraces = false) (D : va_G) (q : Nat → Nat) (k : Nat → ClassId) (r : Nat → Nat) (S Z : Nat → Nat → Nat) (sz : Nat) (x0 : Int32) (x1 : Int32) (b : Bool) (hB : Bd S) : vx_Met l yX2_turn wsX2_turn ({ frames := 7, cells := 1, slots := 6, locals := 110 } : Room) (va_Pc [.ref (q 0), .int x0, .int x1, .int (nI (bN b))] (tB D k (wC q k r S Z) sz)) (va_Qi (fun (r : Int32) (u : (Nat → Nat → Nat) × (Nat → Nat → Nat)) => cd1 (okT S x0 x1) = 0 ∧ r = nI (tuS S (2 * iN x0 + iN x1) (bN b) 10 (2 * iN x0) + tuS S (2 * iN x0 + iN x1) (bN b) 10 (2 * iN x0 + 1)) ∧ u.1 = tuS S (2 * iN x0 + iN x1) (bN b) ∧ u.2 = Z) (fun u t => wE D (va_A (wC q k r S Z) sz) (wC q k r u.1 u.2) t) (va_A (wC q k r S Z) sz)) (vx_X (fun _ : Unit => True) (fun E _ t => (E = eIA ∧ cd1 (okT S x0 x1) = 1) ∧ wE D (va_A (wC q k r S Z) sz) (wC q k r S Z) t) (va_A (wC q k r S Z) sz)) 1 6 (va_A (wC q k r S Z) sz) := by
  refine vx_ofW (cc := cX2_turn) (maxL := 4) (ret := (some .int)) (by decide) rfl ?_
  intro p e s m args below meth c s₁ B hml hno hv
  obtain ⟨rfl, ⟨hsz, hP, hX, hD0⟩, hT, hZ⟩ := hv
  have hx := B.exec
  have hb := B.bytes
  have hr := B.returns
  have hts := atoms_spec (ws := wsX2_turn) B.pre
  have hown : s.vm.findClass RX2 = some m.cls := findClass_of_methodNamed B.named
  have hlocks := B.notSynchronized
  subst hsz
  have hD := hD0.self (sz := s.heap.size)
  generalize hAe : va_A (wC q k r S Z) s.heap.size = A at hD hZ ⊢
  have hA : ∀ q : Nat, s.heap.size ≤ q → A q := fun q h => by rw [← hAe]; exact Or.inr h
  have hS : va_S A s.heap s.heap [] := va_S.rf
  have hP : va_P D vwCl (wC q k r S Z) s.heap := hP
  have hf_12 := hts (.fieldLink RX2 12 "FloorGraph" "floor" "LFloorGraph$Floor;") (by decide +kernel)
  have hf_59 := hts (.fieldLink RX2 59 "FloorGraph" "changes" "I") (by decide +kernel)
  have hf_86 : (Cond.fieldLinkNest "FloorGraph" 86 "FloorGraph$Floor" "passages" "I" "FloorGraph").before _ s = true := va_Nw.use (A := [.ref (q 0), .int x0, .int x1, .int (nI (bN b))].toArray) rfl (hX.2.1 ("FloorGraph", 86, "FloorGraph$Floor", "passages", "I", "FloorGraph") (by decide +kernel))
  have hf_91 : (Cond.fieldLinkNest "FloorGraph" 91 "FloorGraph$Floor" "barred" "[Z" "FloorGraph").before _ s = true := va_Nw.use (A := [.ref (q 0), .int x0, .int x1, .int (nI (bN b))].toArray) rfl (hX.2.1 ("FloorGraph", 91, "FloorGraph$Floor", "barred", "[Z", "FloorGraph") (by decide +kernel))
  have hin_X1 : ∀ w ∈ u_ws RX1 TX1 14, w ∈ wsX2_turn := by decide +kernel
  have hin_X2 : ∀ w ∈ u_ws RX2 TX2 12, w ∈ wsX2_turn := by decide +kernel
  have hg_45 : ∀ w ∈ (vx_atS RX2 45 eIA nm2).filter goodWord, w.before [.ref (q 0), .int x0, .int x1, .int (nI (bN b))].toArray s = true := fun w h => hts w (List.mem_cons_of_mem _ (List.mem_append_right _ h))
  have f0 := hB.1
  have f1 := nI_toInt (n := S 0 1 / 2) (by omega)
  have hl := lv_entry ([.ref (q 0), .int x0, .int x1, .int (nI (bN b))]) (n := 4) (Nat.le_of_ble_eq_true rfl)
  rw [lg_entry_eq]
  generalize (lg_sl ([.ref (q 0), .int x0, .int x1, .int (nI (bN b))]) ++ List.replicate (4 - (lg_sl ([.ref (q 0), .int x0, .int x1, .int (nI (bN b))])).length) Slot.unset).toArray = ls at hl ⊢
  have hl : lv_has ls 4 [(0, .ref (q 0)), (1, .int x0), (2, .int x1), (3, .int (nI (bN b)))] := hl
  refine lv_iload_n hx hb dX2_turn_0 rfl (lv_at hl 1 rfl) ?_
  refine nr_if_lt (tgt := 17) hx hb dX2_turn_1 (by decide) (fun h_1 => ?_) (fun h_1 => ?_)
  · skip
    exact th_row (is := 89) (text := "no such join") (rest := []) hx hb hst hown (by decide +kernel) (by decide +kernel) (hts (.classLink RX2 41 eIA) (by decide +kernel)) (hts (.initialized eIA) (by decide +kernel)) hT (by decide +kernel) (by decide +kernel) hg_45 bd_IA gd_IA hZ hS (hl.1.trans hml.symm) dX2_turn_17 dX2_turn_20 dX2_turn_21 dX2_turn_23 dX2_turn_26 hno (Nat.le_of_ble_eq_true rfl) (Nat.le_of_ble_eq_true rfl) (Nat.le_of_ble_eq_true rfl) (Nat.le_of_ble_eq_true rfl) hlocks (fun t hvm h1 h2 => ⟨(), trivial, ⟨⟨rfl, cd1_1 (ok := okT S x0 x1) (fun q => by unfold okT at q; omega)⟩, th_P hP h2, hD⟩, th_F hS h1 h2⟩) hS.2.2 (Nat.le_of_ble_eq_true rfl) (Nat.le_of_ble_eq_true rfl)
  · skip
    refine lv_iload_n hx hb dX2_turn_4 rfl (lv_at hl 1 rfl) ?_
    refine lv_aload_n hx hb dX2_turn_5 rfl (lv_at hl 0 rfl) ?_
    refine va_get (D := D) (v := .ref (q 1)) hx hb hts hin_X2 hown hX.1 hP 0 rfl rfl 0 (by decide) hf_12 (fun _ h9 => h9) rfl dX2_turn_6 ?_
    refine va_getN (D := D) (v := .int (nI (S 0 1))) hx hb hts hin_X1 hown hX.1 hP 1 rfl rfl 7 (by decide) hf_86 (fun _ h9 => h9) rfl dX2_turn_9 ?_
    refine lv_iconst (v := nI 2) hx hb dX2_turn_12 (by decide) ?_
    refine na_idiv2 hx hb (by omega) dX2_turn_13 ?_
    refine nr_icmp_lt (tgt := 27) hx hb dX2_turn_14 (by decide) (fun h_14 => ?_) (fun h_14 => ?_)
    · skip
      rw [f1] at h_14
      refine lv_iload_n hx hb dX2_turn_27 rfl (lv_at hl 2 rfl) ?_
      refine xr_Sv (As := [.int x1]) (rest := []) ⟨hx, hb, hml, hown, hts⟩ (k_X2_needZeroOrOne l hst _ x1 ) (va_cwS 1 hts gX2_turn_X2_needZeroOrOne rfl rfl rfl (by decide +kernel) ⟨by decide, by decide⟩) hT hZ hP hS hA rfl hl.1 rfl (Nat.le_of_ble_eq_true rfl) dX2_turn_28 ⟨(Nat.le_of_ble_eq_true rfl), (Nat.le_of_ble_eq_true rfl)⟩ hno hlocks (Nat.le_of_ble_eq_true rfl) (Nat.le_of_ble_eq_true rfl) (fun _ h => h) (fun E t hok hxe hvm hP9 hF9 => ⟨(), trivial, ⟨⟨hxe, cd1_1 (ok := okT S x0 x1) (fun q => hok q.2)⟩, hP9, hD⟩, hF9⟩) (fun H locs hw_1 hP hS => ?_)
      have hP : va_P D vwCl (wC q k r S Z) H := hP
      have j0 := iN_toInt (x := x0) (by omega)
      have j1 := iN_toInt (x := x1) hw_1.1
      refine lv_aload_n hx hb dX2_turn_31 rfl (lv_at hl 0 rfl) ?_
      refine lv_dup hx hb dX2_turn_32 rfl ?_
      refine va_get (D := D) (v := .int (nI (S 0 4))) hx hb hts hin_X2 hown hX.1 hP 0 rfl rfl 10 (by decide) hf_59 (fun _ h9 => h9) rfl dX2_turn_33 ?_
      refine lv_iconst (v := nI 1) hx hb dX2_turn_36 (by decide) ?_
      refine na_iadd hx hb dX2_turn_37 ?_
      refine va_put (D := D) (v := .int (nI ((S 0 4) + 1))) (ty := .int) hx hb hts hin_X2 tyX2 tyX2_ok nmX2 hown hX.1 hP hD hS 0 rfl rfl 10 (by decide) hf_59 (fun _ h9 => h9) rfl (by decide +kernel) rfl rfl (Nat.le_of_ble_eq_true rfl) dX2_turn_38 (fun H locs hP hD hS => ?_)
      have hP : va_P D vwCl (wC q k r (up2 S 0 4 ((S 0 4) + 1)) Z) H := sP_C0_10 hP
      have hD : va_D A (wC q k r (up2 S 0 4 ((S 0 4) + 1)) Z) := sD_C0_10 hD
      refine lv_aload_n hx hb dX2_turn_41 rfl (lv_at hl 0 rfl) ?_
      refine va_get (D := D) (v := .ref (q 1)) hx hb hts hin_X2 hown hX.1 hP 0 rfl rfl 0 (by decide) hf_12 (fun _ h9 => h9) rfl dX2_turn_42 ?_
      refine va_getN (D := D) (v := .ref (q 12)) hx hb hts hin_X1 hown hX.1 hP 1 rfl rfl 11 (by decide) hf_91 (fun _ h9 => h9) rfl dX2_turn_45 ?_
      refine lv_iconst (v := nI 2) hx hb dX2_turn_48 (by decide) ?_
      refine lv_iload_n hx hb dX2_turn_49 rfl (lv_at hl 1 rfl) ?_
      refine na_as (y := nI (iN x0)) (iN_eq (by omega)) ?_
      refine na_imul hx hb dX2_turn_50 ?_
      refine lv_iload_n hx hb dX2_turn_51 rfl (lv_at hl 2 rfl) ?_
      refine na_as (y := nI (iN x1)) (iN_eq hw_1.1) ?_
      refine na_iadd hx hb dX2_turn_52 ?_
      refine lv_iload_n hx hb dX2_turn_53 rfl (lv_at hl 3 rfl) ?_
      refine na_zast hx hb hX.1 hP hD hS 12 1 rfl rfl (bN_le _) (by omega) (by decide) (upd_enc nI _ _ _) dX2_turn_54 (fun H locs hP hD hS => ?_)
      have hP : va_P D vwCl (wC q k r (up2 (up2 S 0 4 ((S 0 4) + 1)) 10 ((2 * (iN x0)) + (iN x1)) (bN b)) Z) H := sP_C12 hP
      have hD : va_D A (wC q k r (up2 (up2 S 0 4 ((S 0 4) + 1)) 10 ((2 * (iN x0)) + (iN x1)) (bN b)) Z) := sD_C12 hD
      refine lv_aload_n hx hb dX2_turn_55 rfl (lv_at hl 0 rfl) ?_
      refine va_get (D := D) (v := .ref (q 1)) hx hb hts hin_X2 hown hX.1 hP 0 rfl rfl 0 (by decide) hf_12 (fun _ h9 => h9) rfl dX2_turn_56 ?_
      refine lv_iconst (v := nI 2) hx hb dX2_turn_59 (by decide) ?_
      refine lv_iload_n hx hb dX2_turn_60 rfl (lv_at hl 1 rfl) ?_
      refine na_as (y := nI (iN x0)) (iN_eq (by omega)) ?_
      refine na_imul hx hb dX2_turn_61 ?_
      refine lv_iconst (v := nI 2) hx hb dX2_turn_62 (by decide) ?_
      refine lv_iload_n hx hb dX2_turn_63 rfl (lv_at hl 1 rfl) ?_
      refine na_as (y := nI (iN x0)) (iN_eq (by omega)) ?_
      refine na_imul hx hb dX2_turn_64 ?_
      refine lv_iconst (v := nI 2) hx hb dX2_turn_65 (by decide) ?_
      refine na_iadd hx hb dX2_turn_66 ?_
      refine rd_N (As := [.int (nI (2 * (iN x0))), .int (nI ((2 * (iN x0)) + 2))]) (rest := []) ⟨hx, hb, hml, hown, hts⟩ (k_X1_barredAmong l D q k r (up2 (up2 S 0 4 ((S 0 4) + 1)) 10 ((2 * (iN x0)) + (iN x1)) (bN b)) Z (2 * (iN x0)) ((2 * (iN x0)) + 2) (Bd_r10 hB (bN_le b)) (by omega) (by omega)) ⟨va_cnB 2 hts gX2_turn_X1_barredAmong_n95 rfl rfl rfl (hX.2.2 ("FloorGraph", 95, yX1_barredAmong) (by decide +kernel)) (hts (.initialized RX1) (by decide +kernel)) (by decide +kernel) ⟨by decide, by decide⟩, hts (.instanceMethod yX1_barredAmong) (by decide +kernel), hts (.selects RX1 yX1_barredAmong yX1_barredAmong) (by decide +kernel)⟩ hX hP (q0 := 1) rfl rfl rfl hl.1 rfl (Nat.le_of_ble_eq_true rfl) dX2_turn_67 ⟨(Nat.le_of_ble_eq_true rfl), (Nat.le_of_ble_eq_true rfl)⟩ ?_
      refine vx_ret (W.widen (k := 1) (n := 6) (Nat.le_of_ble_eq_true rfl) (Nat.le_of_ble_eq_true rfl) ?_)
      exact W.iret (v := nI (sm ((up2 (up2 S 0 4 ((S 0 4) + 1)) 10 ((2 * (iN x0)) + (iN x1)) (bN b)) 10) (2 * (iN x0)) (((2 * (iN x0)) + 2) - (2 * (iN x0))))) hx hb hr (fun t ht hW => ⟨⟨_, ((up2 (up2 S 0 4 ((S 0 4) + 1)) 10 ((2 * (iN x0)) + (iN x1)) (bN b)), Z), rfl, ⟨cd1_0 (ok := okT S x0 x1) ⟨⟨by omega, by omega⟩, hw_1⟩, congrArg nI sm_two, up2_comm (by omega), rfl⟩, by rw [ht]; exact hP, hD⟩, hS.F ht⟩) hS.2.2 dX2_turn_70
    · skip
      rw [f1] at h_14
      exact th_row (is := 89) (text := "no such join") (rest := []) hx hb hst hown (by decide +kernel) (by decide +kernel) (hts (.classLink RX2 41 eIA) (by decide +kernel)) (hts (.initialized eIA) (by decide +kernel)) hT (by decide +kernel) (by decide +kernel) hg_45 bd_IA gd_IA hZ hS (hl.1.trans hml.symm) dX2_turn_17 dX2_turn_20 dX2_turn_21 dX2_turn_23 dX2_turn_26 hno (Nat.le_of_ble_eq_true rfl) (Nat.le_of_ble_eq_true rfl) (Nat.le_of_ble_eq_true rfl) (Nat.le_of_ble_eq_true rfl) hlocks (fun t hvm h1 h2 => ⟨(), trivial, ⟨⟨rfl, cd1_1 (ok := okT S x0 x1) (fun q => by unfold okT at q; omega)⟩, th_P hP h2, hD⟩, th_F hS h1 h2⟩) hS.2.2 (Nat.le_of_ble_eq_true rfl) (Nat.le_of_ble_eq_true rfl)

set_option maxHeartbeats 4000000 in
set_option maxRecDepth 100000 in
theorem k_X2_width (l : Launch) (hst : l.stackTraces = false) (D : va_G) (q : Nat → Nat) (k : Nat → ClassId) (r : Nat → Nat) (S Z : Nat → Nat → Nat) (sz : Nat) (x0 : Int32) (x1 : Int32) (hB : Bd S) : vx_Met l yX2_width wsX2_width ({ frames := 7, cells := 2, slots := 12, locals := 111 } : Room) (va_Pc [.ref (q 0), .int x0, .int x1] (tB D k (wC q k r S Z) sz)) (va_Qv (fun (u : (Nat → Nat → Nat) × (Nat → Nat → Nat)) => cd1 (okW S x0 x1) = 0 ∧ u.1 = wiS S (iN x0) (iN x1) ∧ u.2 = Z) (fun u t => wE D (va_A (wC q k r S Z) sz) (wC q k r u.1 u.2) t) (va_A (wC q k r S Z) sz)) (vx_X (fun _ : Unit => True) (fun E _ t => (E = eIA ∧ cd1 (okW S x0 x1) = 1) ∧ wE D (va_A (wC q k r S Z) sz) (wC q k r S Z) t) (va_A (wC q k r S Z) sz)) 2 12 (va_A (wC q k r S Z) sz) := by
  refine vx_ofW (cc := cX2_width) (maxL := 3) (ret := none) (by decide) rfl ?_
  intro p e s m args below meth c s₁ B hml hno hv
  obtain ⟨rfl, ⟨hsz, hP, hX, hD0⟩, hT, hZ⟩ := hv
  have hx := B.exec
  have hb := B.bytes
  have hr := B.returns
  have hts := atoms_spec (ws := wsX2_width) B.pre
  have hown : s.vm.findClass RX2 = some m.cls := findClass_of_methodNamed B.named
  have hlocks := B.notSynchronized
  subst hsz
  have hD := hD0.self (sz := s.heap.size)
  generalize hAe : va_A (wC q k r S Z) s.heap.size = A at hD hZ ⊢
  have hA : ∀ q : Nat, s.heap.size ≤ q → A q := fun q h => by rw [← hAe]; exact Or.inr h
  have hS : va_S A s.heap s.heap [] := va_S.rf
  have hP : va_P D vwCl (wC q k r S Z) s.heap := hP
  have hf_12 := hts (.fieldLink RX2 12 "FloorGraph" "floor" "LFloorGraph$Floor;") (by decide +kernel)
  have hf_59 := hts (.fieldLink RX2 59 "FloorGraph" "changes" "I") (by decide +kernel)
  have hf_102 : (Cond.fieldLinkNest "FloorGraph" 102 "FloorGraph$Floor" "widths" "[I" "FloorGraph").before _ s = true := va_Nw.use (A := [.ref (q 0), .int x0, .int x1].toArray) rfl (hX.2.1 ("FloorGraph", 102, "FloorGraph$Floor", "widths", "[I", "FloorGraph") (by decide +kernel))
  have hin_X1 : ∀ w ∈ u_ws RX1 TX1 14, w ∈ wsX2_width := by decide +kernel
  have hin_X2 : ∀ w ∈ u_ws RX2 TX2 12, w ∈ wsX2_width := by decide +kernel
  have f0 := hB.1
  have hl := lv_entry ([.ref (q 0), .int x0, .int x1]) (n := 3) (Nat.le_of_ble_eq_true rfl)
  rw [lg_entry_eq]
  generalize (lg_sl ([.ref (q 0), .int x0, .int x1]) ++ List.replicate (3 - (lg_sl ([.ref (q 0), .int x0, .int x1])).length) Slot.unset).toArray = ls at hl ⊢
  have hl : lv_has ls 3 [(0, .ref (q 0)), (1, .int x0), (2, .int x1)] := hl
  refine lv_aload_n hx hb dX2_width_0 rfl (lv_at hl 0 rfl) ?_
  refine lv_iload_n hx hb dX2_width_1 rfl (lv_at hl 1 rfl) ?_
  refine xr_Vv (As := [.int x0]) (rest := []) ⟨hx, hb, hml, hown, hts⟩ (k_X2_needPiece l hst D q k r S Z _ x0 hB) (cwV 1 hts gX2_width_X2_needPiece rfl rfl rfl (by decide +kernel) ⟨by decide, by decide⟩) hX hT hZ hP hD hS hA (q0 := 0) rfl rfl rfl hl.1 rfl (Nat.le_of_ble_eq_true rfl) dX2_width_2 ⟨(Nat.le_of_ble_eq_true rfl), (Nat.le_of_ble_eq_true rfl)⟩ hno hlocks (Nat.le_of_ble_eq_true rfl) (Nat.le_of_ble_eq_true rfl) (fun _ h => h) (fun E u t _ hxe hvm hP9 hD9 hF9 => ⟨(), trivial, ⟨⟨hxe.1, cd1_1 (ok := okW S x0 x1) (fun q => hxe.2 q.1)⟩, hP9, hD9⟩, hF9⟩) (fun u_1 H locs hw_1 hP hD hS => ?_)
  obtain ⟨S_1, Z_1⟩ := u_1
  obtain ⟨e1, e2, hk_1⟩ := hw_1
  dsimp only at e1 e2 hP hD
  rw [e1, e2] at hP hD
  have hP : va_P D vwCl (wC q k r S Z) H := hP
  have hD : va_D A (wC q k r S Z) := hD
  refine lv_iload_n hx hb dX2_width_5 rfl (lv_at hl 2 rfl) ?_
  refine xr_Sv (As := [.int x1]) (rest := []) ⟨hx, hb, hml, hown, hts⟩ (k_X2_needWidth l hst _ x1 ) (va_cwS 1 hts gX2_width_X2_needWidth rfl rfl rfl (by decide +kernel) ⟨by decide, by decide⟩) hT hZ hP hS hA rfl hl.1 rfl (Nat.le_of_ble_eq_true rfl) dX2_width_6 ⟨(Nat.le_of_ble_eq_true rfl), (Nat.le_of_ble_eq_true rfl)⟩ hno hlocks (Nat.le_of_ble_eq_true rfl) (Nat.le_of_ble_eq_true rfl) (fun _ h => h) (fun E t hok hxe hvm hP9 hF9 => ⟨(), trivial, ⟨⟨hxe, cd1_1 (ok := okW S x0 x1) (fun q => hok q.2)⟩, hP9, hD⟩, hF9⟩) (fun H locs hw_2 hP hS => ?_)
  have hP : va_P D vwCl (wC q k r S Z) H := hP
  have l0 := hk_1.lt
  have j0 := iN_toInt (x := x0) hk_1.1
  have j1 := iN_toInt (x := x1) (by omega)
  refine lv_aload_n hx hb dX2_width_9 rfl (lv_at hl 0 rfl) ?_
  refine lv_dup hx hb dX2_width_10 rfl ?_
  refine va_get (D := D) (v := .int (nI (S 0 4))) hx hb hts hin_X2 hown hX.1 hP 0 rfl rfl 10 (by decide) hf_59 (fun _ h9 => h9) rfl dX2_width_11 ?_
  refine lv_iconst (v := nI 1) hx hb dX2_width_14 (by decide) ?_
  refine na_iadd hx hb dX2_width_15 ?_
  refine va_put (D := D) (v := .int (nI ((S 0 4) + 1))) (ty := .int) hx hb hts hin_X2 tyX2 tyX2_ok nmX2 hown hX.1 hP hD hS 0 rfl rfl 10 (by decide) hf_59 (fun _ h9 => h9) rfl (by decide +kernel) rfl rfl (Nat.le_of_ble_eq_true rfl) dX2_width_16 (fun H locs hP hD hS => ?_)
  have hP : va_P D vwCl (wC q k r (up2 S 0 4 ((S 0 4) + 1)) Z) H := sP_C0_10 hP
  have hD : va_D A (wC q k r (up2 S 0 4 ((S 0 4) + 1)) Z) := sD_C0_10 hD
  refine lv_aload_n hx hb dX2_width_19 rfl (lv_at hl 0 rfl) ?_
  refine va_get (D := D) (v := .ref (q 1)) hx hb hts hin_X2 hown hX.1 hP 0 rfl rfl 0 (by decide) hf_12 (fun _ h9 => h9) rfl dX2_width_20 ?_
  refine va_getN (D := D) (v := .ref (q 5)) hx hb hts hin_X1 hown hX.1 hP 1 rfl rfl 3 (by decide) hf_102 (fun _ h9 => h9) rfl dX2_width_23 ?_
  refine lv_iload_n hx hb dX2_width_26 rfl (lv_at hl 1 rfl) ?_
  refine na_as (y := nI (iN x0)) (iN_eq hk_1.1) ?_
  refine lv_iload_n hx hb dX2_width_27 rfl (lv_at hl 2 rfl) ?_
  refine na_as (y := nI (iN x1)) (iN_eq (by omega)) ?_
  refine na_iast hx hb hX.1 hP hD hS 5 0 rfl rfl (by omega) (by decide) (upd_enc nI _ _ _) dX2_width_28 (fun H locs hP hD hS => ?_)
  have hP : va_P D vwCl (wC q k r (up2 (up2 S 0 4 ((S 0 4) + 1)) 3 (iN x0) (iN x1)) Z) H := sP_C5 hP
  have hD : va_D A (wC q k r (up2 (up2 S 0 4 ((S 0 4) + 1)) 3 (iN x0) (iN x1)) Z) := sD_C5 hD
  refine vx_ret (W.widen (k := 2) (n := 12) (Nat.le_of_ble_eq_true rfl) (Nat.le_of_ble_eq_true rfl) ?_)
  exact W.vret hx hb hr (fun t ht hW => ⟨⟨((up2 (up2 S 0 4 ((S 0 4) + 1)) 3 (iN x0) (iN x1)), Z), rfl, ⟨cd1_0 (ok := okW S x0 x1) ⟨hk_1, hw_2⟩, up2_comm (by omega), rfl⟩, by rw [ht]; exact hP, hD⟩, hS.F ht⟩) hS.2.2 dX2_width_29

set_option maxHeartbeats 4000000 in
set_option maxRecDepth 100000 in
theorem k_X2_zone (l : Launch) (hst : l.stackTraces = false) (D : va_G) (q : Nat → Nat) (k : Nat → ClassId) (r : Nat → Nat) (S Z : Nat → Nat → Nat) (sz : Nat) (x0 : Int32) (x1 : Int32) (b : Bool) (hB : Bd S) : vx_Met l yX2_zone wsX2_zone ({ frames := 7, cells := 2, slots := 12, locals := 111 } : Room) (va_Pc [.ref (q 0), .int x0, .int x1, .int (nI (bN b))] (tB D k (wC q k r S Z) sz)) (va_Qi (fun (r : Int32) (u : (Nat → Nat → Nat) × (Nat → Nat → Nat)) => cd1 (okZ S x0 x1) = 0 ∧ r = nI (pop (wb (S 6 (iN x0)) (iN x1) b)) ∧ u.1 = zoS S (iN x0) (iN x1) b ∧ u.2 = Z) (fun u t => wE D (va_A (wC q k r S Z) sz) (wC q k r u.1 u.2) t) (va_A (wC q k r S Z) sz)) (vx_X (fun _ : Unit => True) (fun E _ t => (E = eIA ∧ cd1 (okZ S x0 x1) = 1) ∧ wE D (va_A (wC q k r S Z) sz) (wC q k r S Z) t) (va_A (wC q k r S Z) sz)) 2 12 (va_A (wC q k r S Z) sz) := by
  refine vx_ofW (cc := cX2_zone) (maxL := 4) (ret := (some .int)) (by decide) rfl ?_
  intro p e s m args below meth c s₁ B hml hno hv
  obtain ⟨rfl, ⟨hsz, hP, hX, hD0⟩, hT, hZ⟩ := hv
  have hx := B.exec
  have hb := B.bytes
  have hr := B.returns
  have hts := atoms_spec (ws := wsX2_zone) B.pre
  have hown : s.vm.findClass RX2 = some m.cls := findClass_of_methodNamed B.named
  have hlocks := B.notSynchronized
  subst hsz
  have hD := hD0.self (sz := s.heap.size)
  generalize hAe : va_A (wC q k r S Z) s.heap.size = A at hD hZ ⊢
  have hA : ∀ q : Nat, s.heap.size ≤ q → A q := fun q h => by rw [← hAe]; exact Or.inr h
  have hS : va_S A s.heap s.heap [] := va_S.rf
  have hP : va_P D vwCl (wC q k r S Z) s.heap := hP
  have hf_12 := hts (.fieldLink RX2 12 "FloorGraph" "floor" "LFloorGraph$Floor;") (by decide +kernel)
  have hf_59 := hts (.fieldLink RX2 59 "FloorGraph" "changes" "I") (by decide +kernel)
  have hin_X2 : ∀ w ∈ u_ws RX2 TX2 12, w ∈ wsX2_zone := by decide +kernel
  have f0 := hB.1
  have hl := lv_entry ([.ref (q 0), .int x0, .int x1, .int (nI (bN b))]) (n := 4) (Nat.le_of_ble_eq_true rfl)
  rw [lg_entry_eq]
  generalize (lg_sl ([.ref (q 0), .int x0, .int x1, .int (nI (bN b))]) ++ List.replicate (4 - (lg_sl ([.ref (q 0), .int x0, .int x1, .int (nI (bN b))])).length) Slot.unset).toArray = ls at hl ⊢
  have hl : lv_has ls 4 [(0, .ref (q 0)), (1, .int x0), (2, .int x1), (3, .int (nI (bN b)))] := hl
  refine lv_aload_n hx hb dX2_zone_0 rfl (lv_at hl 0 rfl) ?_
  refine lv_iload_n hx hb dX2_zone_1 rfl (lv_at hl 1 rfl) ?_
  refine xr_Vv (As := [.int x0]) (rest := []) ⟨hx, hb, hml, hown, hts⟩ (k_X2_needPiece l hst D q k r S Z _ x0 hB) (cwV 1 hts gX2_zone_X2_needPiece rfl rfl rfl (by decide +kernel) ⟨by decide, by decide⟩) hX hT hZ hP hD hS hA (q0 := 0) rfl rfl rfl hl.1 rfl (Nat.le_of_ble_eq_true rfl) dX2_zone_2 ⟨(Nat.le_of_ble_eq_true rfl), (Nat.le_of_ble_eq_true rfl)⟩ hno hlocks (Nat.le_of_ble_eq_true rfl) (Nat.le_of_ble_eq_true rfl) (fun _ h => h) (fun E u t _ hxe hvm hP9 hD9 hF9 => ⟨(), trivial, ⟨⟨hxe.1, cd1_1 (ok := okZ S x0 x1) (fun q => hxe.2 q.1)⟩, hP9, hD9⟩, hF9⟩) (fun u_1 H locs hw_1 hP hD hS => ?_)
  obtain ⟨S_1, Z_1⟩ := u_1
  obtain ⟨e1, e2, hk_1⟩ := hw_1
  dsimp only at e1 e2 hP hD
  rw [e1, e2] at hP hD
  have hP : va_P D vwCl (wC q k r S Z) H := hP
  have hD : va_D A (wC q k r S Z) := hD
  refine lv_iload_n hx hb dX2_zone_5 rfl (lv_at hl 2 rfl) ?_
  refine xr_Sv (As := [.int x1]) (rest := []) ⟨hx, hb, hml, hown, hts⟩ (k_X2_needHour l hst _ x1 ) (va_cwS 1 hts gX2_zone_X2_needHour rfl rfl rfl (by decide +kernel) ⟨by decide, by decide⟩) hT hZ hP hS hA rfl hl.1 rfl (Nat.le_of_ble_eq_true rfl) dX2_zone_6 ⟨(Nat.le_of_ble_eq_true rfl), (Nat.le_of_ble_eq_true rfl)⟩ hno hlocks (Nat.le_of_ble_eq_true rfl) (Nat.le_of_ble_eq_true rfl) (fun _ h => h) (fun E t hok hxe hvm hP9 hF9 => ⟨(), trivial, ⟨⟨hxe, cd1_1 (ok := okZ S x0 x1) (fun q => hok q.2)⟩, hP9, hD⟩, hF9⟩) (fun H locs hw_2 hP hS => ?_)
  have hP : va_P D vwCl (wC q k r S Z) H := hP
  have l0 := hk_1.lt
  have j0 := iN_toInt (x := x0) hk_1.1
  have j1 := iN_toInt (x := x1) (by omega)
  refine lv_aload_n hx hb dX2_zone_9 rfl (lv_at hl 0 rfl) ?_
  refine lv_dup hx hb dX2_zone_10 rfl ?_
  refine va_get (D := D) (v := .int (nI (S 0 4))) hx hb hts hin_X2 hown hX.1 hP 0 rfl rfl 10 (by decide) hf_59 (fun _ h9 => h9) rfl dX2_zone_11 ?_
  refine lv_iconst (v := nI 1) hx hb dX2_zone_14 (by decide) ?_
  refine na_iadd hx hb dX2_zone_15 ?_
  refine va_put (D := D) (v := .int (nI ((S 0 4) + 1))) (ty := .int) hx hb hts hin_X2 tyX2 tyX2_ok nmX2 hown hX.1 hP hD hS 0 rfl rfl 10 (by decide) hf_59 (fun _ h9 => h9) rfl (by decide +kernel) rfl rfl (Nat.le_of_ble_eq_true rfl) dX2_zone_16 (fun H locs hP hD hS => ?_)
  have hP : va_P D vwCl (wC q k r (up2 S 0 4 ((S 0 4) + 1)) Z) H := sP_C0_10 hP
  have hD : va_D A (wC q k r (up2 S 0 4 ((S 0 4) + 1)) Z) := sD_C0_10 hD
  refine lv_aload_n hx hb dX2_zone_19 rfl (lv_at hl 0 rfl) ?_
  refine va_get (D := D) (v := .ref (q 1)) hx hb hts hin_X2 hown hX.1 hP 0 rfl rfl 0 (by decide) hf_12 (fun _ h9 => h9) rfl dX2_zone_20 ?_
  refine lv_iload_n hx hb dX2_zone_23 rfl (lv_at hl 1 rfl) ?_
  refine na_as (y := nI (iN x0)) (iN_eq hk_1.1) ?_
  refine lv_iload_n hx hb dX2_zone_24 rfl (lv_at hl 2 rfl) ?_
  refine na_as (y := nI (iN x1)) (iN_eq (by omega)) ?_
  refine lv_iload_n hx hb dX2_zone_25 rfl (lv_at hl 3 rfl) ?_
  refine wr_Ni (As := [.int (nI (iN x0)), .int (nI (iN x1)), .int (nI (bN b))]) (rest := []) ⟨hx, hb, hml, hown, hts⟩ (k_X1_setZone l D q k r (up2 S 0 4 ((S 0 4) + 1)) Z _ (iN x0) (iN x1) b (Bd_ch hB) (by omega) (by omega)) ⟨va_cnB 3 hts gX2_zone_X1_setZone_n108 rfl rfl rfl (hX.2.2 ("FloorGraph", 108, yX1_setZone) (by decide +kernel)) (hts (.initialized RX1) (by decide +kernel)) (by decide +kernel) ⟨by decide, by decide⟩, hts (.instanceMethod yX1_setZone) (by decide +kernel), hts (.selects RX1 yX1_setZone yX1_setZone) (by decide +kernel)⟩ hX hP hD hS hA (q0 := 1) rfl rfl rfl hl.1 rfl (Nat.le_of_ble_eq_true rfl) dX2_zone_26 ⟨Nat.le_of_ble_eq_true rfl, Nat.le_of_ble_eq_true rfl⟩ (fun r_3 u_3 H locs hw_3 hP hD hS => ?_)
  obtain ⟨S_3, Z_3⟩ := u_3
  obtain ⟨e1, e2, e3⟩ := hw_3
  dsimp only at e2 e3 hP hD
  rw [e2, e3] at hP hD
  subst e1
  have hP : va_P D vwCl (wC q k r (up2 (up2 S 0 4 ((S 0 4) + 1)) 6 (iN x0) (wb (S 6 (iN x0)) (iN x1) b)) Z) H := hP
  have hD : va_D A (wC q k r (up2 (up2 S 0 4 ((S 0 4) + 1)) 6 (iN x0) (wb (S 6 (iN x0)) (iN x1) b)) Z) := hD
  refine vx_ret (W.widen (k := 2) (n := 12) (Nat.le_of_ble_eq_true rfl) (Nat.le_of_ble_eq_true rfl) ?_)
  exact W.iret (v := nI (pop (wb (S 6 (iN x0)) (iN x1) b))) hx hb hr (fun t ht hW => ⟨⟨_, ((up2 (up2 S 0 4 ((S 0 4) + 1)) 6 (iN x0) (wb (S 6 (iN x0)) (iN x1) b)), Z), rfl, ⟨cd1_0 (ok := okZ S x0 x1) ⟨hk_1, hw_2⟩, rfl, up2_comm (by omega), rfl⟩, by rw [ht]; exact hP, hD⟩, hS.F ht⟩) hS.2.2 dX2_zone_29

set_option maxHeartbeats 4000000 in
set_option maxRecDepth 100000 in
theorem k_X2_closed (l : Launch) (hst : l.stackTraces = false) (D : va_G) (q : Nat → Nat) (k : Nat → ClassId) (r : Nat → Nat) (S Z : Nat → Nat → Nat) (sz : Nat) (x0 : Int32) (b : Bool) (hB : Bd S) : vx_Met l yX2_closed wsX2_closed ({ frames := 7, cells := 1, slots := 6, locals := 111 } : Room) (va_Pc [.ref (q 0), .int x0, .int (nI (bN b))] (tB D k (wC q k r S Z) sz)) (va_Qi (fun (r : Int32) (u : (Nat → Nat → Nat) × (Nat → Nat → Nat)) => cd1 (isPc S x0) = 0 ∧ r = nI (sm (clS S (iN x0) (bN b) 5) 0 (S 0 0)) ∧ u.1 = clS S (iN x0) (bN b) ∧ u.2 = Z) (fun u t => wE D (va_A (wC q k r S Z) sz) (wC q k r u.1 u.2) t) (va_A (wC q k r S Z) sz)) (vx_X (fun _ : Unit => True) (fun E _ t => (E = eIA ∧ cd1 (isPc S x0) = 1) ∧ wE D (va_A (wC q k r S Z) sz) (wC q k r S Z) t) (va_A (wC q k r S Z) sz)) 1 6 (va_A (wC q k r S Z) sz) := by
  refine vx_ofW (cc := cX2_closed) (maxL := 3) (ret := (some .int)) (by decide) rfl ?_
  intro p e s m args below meth c s₁ B hml hno hv
  obtain ⟨rfl, ⟨hsz, hP, hX, hD0⟩, hT, hZ⟩ := hv
  have hx := B.exec
  have hb := B.bytes
  have hr := B.returns
  have hts := atoms_spec (ws := wsX2_closed) B.pre
  have hown : s.vm.findClass RX2 = some m.cls := findClass_of_methodNamed B.named
  have hlocks := B.notSynchronized
  subst hsz
  have hD := hD0.self (sz := s.heap.size)
  generalize hAe : va_A (wC q k r S Z) s.heap.size = A at hD hZ ⊢
  have hA : ∀ q : Nat, s.heap.size ≤ q → A q := fun q h => by rw [← hAe]; exact Or.inr h
  have hS : va_S A s.heap s.heap [] := va_S.rf
  have hP : va_P D vwCl (wC q k r S Z) s.heap := hP
  have hf_12 := hts (.fieldLink RX2 12 "FloorGraph" "floor" "LFloorGraph$Floor;") (by decide +kernel)
  have hf_59 := hts (.fieldLink RX2 59 "FloorGraph" "changes" "I") (by decide +kernel)
  have hf_111 : (Cond.fieldLinkNest "FloorGraph" 111 "FloorGraph$Floor" "shut" "[Z" "FloorGraph").before _ s = true := va_Nw.use (A := [.ref (q 0), .int x0, .int (nI (bN b))].toArray) rfl (hX.2.1 ("FloorGraph", 111, "FloorGraph$Floor", "shut", "[Z", "FloorGraph") (by decide +kernel))
  have hin_X1 : ∀ w ∈ u_ws RX1 TX1 14, w ∈ wsX2_closed := by decide +kernel
  have hin_X2 : ∀ w ∈ u_ws RX2 TX2 12, w ∈ wsX2_closed := by decide +kernel
  have f0 := hB.1
  have hl := lv_entry ([.ref (q 0), .int x0, .int (nI (bN b))]) (n := 3) (Nat.le_of_ble_eq_true rfl)
  rw [lg_entry_eq]
  generalize (lg_sl ([.ref (q 0), .int x0, .int (nI (bN b))]) ++ List.replicate (3 - (lg_sl ([.ref (q 0), .int x0, .int (nI (bN b))])).length) Slot.unset).toArray = ls at hl ⊢
  have hl : lv_has ls 3 [(0, .ref (q 0)), (1, .int x0), (2, .int (nI (bN b)))] := hl
  refine lv_aload_n hx hb dX2_closed_0 rfl (lv_at hl 0 rfl) ?_
  refine lv_iload_n hx hb dX2_closed_1 rfl (lv_at hl 1 rfl) ?_
  refine xr_Vv (As := [.int x0]) (rest := []) ⟨hx, hb, hml, hown, hts⟩ (k_X2_needPiece l hst D q k r S Z _ x0 hB) (cwV 1 hts gX2_closed_X2_needPiece rfl rfl rfl (by decide +kernel) ⟨by decide, by decide⟩) hX hT hZ hP hD hS hA (q0 := 0) rfl rfl rfl hl.1 rfl (Nat.le_of_ble_eq_true rfl) dX2_closed_2 ⟨(Nat.le_of_ble_eq_true rfl), (Nat.le_of_ble_eq_true rfl)⟩ hno hlocks (Nat.le_of_ble_eq_true rfl) (Nat.le_of_ble_eq_true rfl) (fun _ h => h) (fun E u t _ hxe hvm hP9 hD9 hF9 => ⟨(), trivial, ⟨⟨hxe.1, cd1_1 (ok := isPc S x0) hxe.2⟩, hP9, hD9⟩, hF9⟩) (fun u_1 H locs hw_1 hP hD hS => ?_)
  obtain ⟨S_1, Z_1⟩ := u_1
  obtain ⟨e1, e2, hk_1⟩ := hw_1
  dsimp only at e1 e2 hP hD
  rw [e1, e2] at hP hD
  have hP : va_P D vwCl (wC q k r S Z) H := hP
  have hD : va_D A (wC q k r S Z) := hD
  have l0 := hk_1.lt
  have j0 := iN_toInt (x := x0) hk_1.1
  refine lv_aload_n hx hb dX2_closed_5 rfl (lv_at hl 0 rfl) ?_
  refine lv_dup hx hb dX2_closed_6 rfl ?_
  refine va_get (D := D) (v := .int (nI (S 0 4))) hx hb hts hin_X2 hown hX.1 hP 0 rfl rfl 10 (by decide) hf_59 (fun _ h9 => h9) rfl dX2_closed_7 ?_
  refine lv_iconst (v := nI 1) hx hb dX2_closed_10 (by decide) ?_
  refine na_iadd hx hb dX2_closed_11 ?_
  refine va_put (D := D) (v := .int (nI ((S 0 4) + 1))) (ty := .int) hx hb hts hin_X2 tyX2 tyX2_ok nmX2 hown hX.1 hP hD hS 0 rfl rfl 10 (by decide) hf_59 (fun _ h9 => h9) rfl (by decide +kernel) rfl rfl (Nat.le_of_ble_eq_true rfl) dX2_closed_12 (fun H locs hP hD hS => ?_)
  have hP : va_P D vwCl (wC q k r (up2 S 0 4 ((S 0 4) + 1)) Z) H := sP_C0_10 hP
  have hD : va_D A (wC q k r (up2 S 0 4 ((S 0 4) + 1)) Z) := sD_C0_10 hD
  refine lv_aload_n hx hb dX2_closed_15 rfl (lv_at hl 0 rfl) ?_
  refine va_get (D := D) (v := .ref (q 1)) hx hb hts hin_X2 hown hX.1 hP 0 rfl rfl 0 (by decide) hf_12 (fun _ h9 => h9) rfl dX2_closed_16 ?_
  refine va_getN (D := D) (v := .ref (q 7)) hx hb hts hin_X1 hown hX.1 hP 1 rfl rfl 5 (by decide) hf_111 (fun _ h9 => h9) rfl dX2_closed_19 ?_
  refine lv_iload_n hx hb dX2_closed_22 rfl (lv_at hl 1 rfl) ?_
  refine na_as (y := nI (iN x0)) (iN_eq hk_1.1) ?_
  refine lv_iload_n hx hb dX2_closed_23 rfl (lv_at hl 2 rfl) ?_
  refine na_zast hx hb hX.1 hP hD hS 7 1 rfl rfl (bN_le _) (by omega) (by decide) (upd_enc nI _ _ _) dX2_closed_24 (fun H locs hP hD hS => ?_)
  have hP : va_P D vwCl (wC q k r (up2 (up2 S 0 4 ((S 0 4) + 1)) 5 (iN x0) (bN b)) Z) H := sP_C7 hP
  have hD : va_D A (wC q k r (up2 (up2 S 0 4 ((S 0 4) + 1)) 5 (iN x0) (bN b)) Z) := sD_C7 hD
  refine lv_aload_n hx hb dX2_closed_25 rfl (lv_at hl 0 rfl) ?_
  refine va_get (D := D) (v := .ref (q 1)) hx hb hts hin_X2 hown hX.1 hP 0 rfl rfl 0 (by decide) hf_12 (fun _ h9 => h9) rfl dX2_closed_26 ?_
  refine rd_N (As := []) (rest := []) ⟨hx, hb, hml, hown, hts⟩ (k_X1_shutPieces l D q k r (up2 (up2 S 0 4 ((S 0 4) + 1)) 5 (iN x0) (bN b)) Z  (Bd_r5 hB (bN_le b))) ⟨va_cnB 0 hts gX2_closed_X1_shutPieces_n114 rfl rfl rfl (hX.2.2 ("FloorGraph", 114, yX1_shutPieces) (by decide +kernel)) (hts (.initialized RX1) (by decide +kernel)) (by decide +kernel) ⟨by decide, by decide⟩, hts (.instanceMethod yX1_shutPieces) (by decide +kernel), hts (.selects RX1 yX1_shutPieces yX1_shutPieces) (by decide +kernel)⟩ hX hP (q0 := 1) rfl rfl rfl hl.1 rfl (Nat.le_of_ble_eq_true rfl) dX2_closed_29 ⟨(Nat.le_of_ble_eq_true rfl), (Nat.le_of_ble_eq_true rfl)⟩ ?_
  refine vx_ret (W.widen (k := 1) (n := 6) (Nat.le_of_ble_eq_true rfl) (Nat.le_of_ble_eq_true rfl) ?_)
  exact W.iret (v := nI (sm ((up2 (up2 S 0 4 ((S 0 4) + 1)) 5 (iN x0) (bN b)) 5) 0 ((up2 (up2 S 0 4 ((S 0 4) + 1)) 5 (iN x0) (bN b)) 0 0))) hx hb hr (fun t ht hW => ⟨⟨_, ((up2 (up2 S 0 4 ((S 0 4) + 1)) 5 (iN x0) (bN b)), Z), rfl, ⟨cd1_0 (ok := isPc S x0) hk_1, rfl, up2_comm (by omega), rfl⟩, by rw [ht]; exact hP, hD⟩, hS.F ht⟩) hS.2.2 dX2_closed_32

set_option maxHeartbeats 4000000 in
set_option maxRecDepth 100000 in
theorem k_X2_robot (l : Launch) (hst : l.stackTraces = false) (D : va_G) (q : Nat → Nat) (k : Nat → ClassId) (r : Nat → Nat) (S Z : Nat → Nat → Nat) (sz : Nat) (x0 : Int32) (hB : Bd S) : vx_Met l yX2_robot wsX2_robot ({ frames := 7, cells := 2, slots := 12, locals := 110 } : Room) (va_Pc [.ref (q 0), .int x0] (tB D k (wC q k r S Z) sz)) (va_Qi (fun (r : Int32) (u : (Nat → Nat → Nat) × (Nat → Nat → Nat)) => cdR S x0 = 0 ∧ r = pI (if fitsW S (iN x0) = true then S 0 2 + 1 else 0) ∧ u.1 = roS S (iN x0) ∧ u.2 = Z) (fun u t => wE D (va_A (wC q k r S Z) sz) (wC q k r u.1 u.2) t) (va_A (wC q k r S Z) sz)) (vx_X (fun _ : Unit => True) (fun E _ t => ((E = eIA ∧ cdR S x0 = 1) ∨ (E = eUO ∧ cdR S x0 = 2)) ∧ wE D (va_A (wC q k r S Z) sz) (wC q k r S Z) t) (va_A (wC q k r S Z) sz)) 2 12 (va_A (wC q k r S Z) sz) := by
  refine vx_ofW (cc := cX2_robot) (maxL := 2) (ret := (some .int)) (by decide) rfl ?_
  intro p e s m args below meth c s₁ B hml hno hv
  obtain ⟨rfl, ⟨hsz, hP, hX, hD0⟩, hT, hZ⟩ := hv
  have hx := B.exec
  have hb := B.bytes
  have hr := B.returns
  have hts := atoms_spec (ws := wsX2_robot) B.pre
  have hown : s.vm.findClass RX2 = some m.cls := findClass_of_methodNamed B.named
  have hlocks := B.notSynchronized
  subst hsz
  have hD := hD0.self (sz := s.heap.size)
  generalize hAe : va_A (wC q k r S Z) s.heap.size = A at hD hZ ⊢
  have hA : ∀ q : Nat, s.heap.size ≤ q → A q := fun q h => by rw [← hAe]; exact Or.inr h
  have hS : va_S A s.heap s.heap [] := va_S.rf
  have hP : va_P D vwCl (wC q k r S Z) s.heap := hP
  have hf_12 := hts (.fieldLink RX2 12 "FloorGraph" "floor" "LFloorGraph$Floor;") (by decide +kernel)
  have hf_23 := hts (.fieldLink RX2 23 "FloorGraph" "robotWidths" "[I") (by decide +kernel)
  have hf_59 := hts (.fieldLink RX2 59 "FloorGraph" "changes" "I") (by decide +kernel)
  have hf_118 := hts (.fieldLink RX2 118 "FloorGraph" "robots" "I") (by decide +kernel)
  have hin_X2 : ∀ w ∈ u_ws RX2 TX2 12, w ∈ wsX2_robot := by decide +kernel
  have hg_58 : ∀ w ∈ (vx_atS RX2 58 eUO nm2).filter goodWord, w.before [.ref (q 0), .int x0].toArray s = true := fun w h => hts w (List.mem_cons_of_mem _ (List.mem_append_left _ (List.mem_append_right _ h)))
  have f0 := hB.1
  have hl := lv_entry ([.ref (q 0), .int x0]) (n := 2) (Nat.le_of_ble_eq_true rfl)
  rw [lg_entry_eq]
  generalize (lg_sl ([.ref (q 0), .int x0]) ++ List.replicate (2 - (lg_sl ([.ref (q 0), .int x0])).length) Slot.unset).toArray = ls at hl ⊢
  have hl : lv_has ls 2 [(0, .ref (q 0)), (1, .int x0)] := hl
  refine lv_iload_n hx hb dX2_robot_0 rfl (lv_at hl 1 rfl) ?_
  refine xr_Sv (As := [.int x0]) (rest := []) ⟨hx, hb, hml, hown, hts⟩ (k_X2_needWidth l hst _ x0 ) (va_cwS 1 hts gX2_robot_X2_needWidth rfl rfl rfl (by decide +kernel) ⟨by decide, by decide⟩) hT hZ hP hS hA rfl hl.1 rfl (Nat.le_of_ble_eq_true rfl) dX2_robot_1 ⟨(Nat.le_of_ble_eq_true rfl), (Nat.le_of_ble_eq_true rfl)⟩ hno hlocks (Nat.le_of_ble_eq_true rfl) (Nat.le_of_ble_eq_true rfl) (fun _ h => h) (fun E t hok hxe hvm hP9 hF9 => ⟨(), trivial, ⟨Or.inl ⟨hxe, cd2_1 (ok := okR x0) hok⟩, hP9, hD⟩, hF9⟩) (fun H locs hw_1 hP hS => ?_)
  have hP : va_P D vwCl (wC q k r S Z) H := hP
  refine lv_aload_n hx hb dX2_robot_4 rfl (lv_at hl 0 rfl) ?_
  refine va_get (D := D) (v := .int (nI (S 0 2))) hx hb hts hin_X2 hown hX.1 hP 0 rfl rfl 3 (by decide) hf_118 (fun _ h9 => h9) rfl dX2_robot_5 ?_
  refine lv_bipush (v := nI 6) hx hb dX2_robot_8 (by decide) ?_
  refine na_icmp_lt (tgt := 23) hx hb (by omega) (by omega) dX2_robot_10 (by decide) (fun h_10 => ?_) (fun h_10 => ?_)
  · skip
    have j0 := iN_toInt (x := x0) (by omega)
    have c0 : cdR S x0 = 0 := cd2_0 (ok := okR x0) (full := S 0 2 = 6) hw_1 (by omega)
    refine lv_aload_n hx hb dX2_robot_23 rfl (lv_at hl 0 rfl) ?_
    refine va_get (D := D) (v := .ref (q 1)) hx hb hts hin_X2 hown hX.1 hP 0 rfl rfl 0 (by decide) hf_12 (fun _ h9 => h9) rfl dX2_robot_24 ?_
    refine lv_iload_n hx hb dX2_robot_27 rfl (lv_at hl 1 rfl) ?_
    refine na_as (y := nI (iN x0)) (iN_eq (by omega)) ?_
    refine rd_N (As := [.int (nI (iN x0))]) (rest := []) ⟨hx, hb, hml, hown, hts⟩ (k_X1_hasPieceFor l D q k r S Z (iN x0) hB (by omega)) ⟨va_cnB 1 hts gX2_robot_X1_hasPieceFor_n123 rfl rfl rfl (hX.2.2 ("FloorGraph", 123, yX1_hasPieceFor) (by decide +kernel)) (hts (.initialized RX1) (by decide +kernel)) (by decide +kernel) ⟨by decide, by decide⟩, hts (.instanceMethod yX1_hasPieceFor) (by decide +kernel), hts (.selects RX1 yX1_hasPieceFor yX1_hasPieceFor) (by decide +kernel)⟩ hX hP (q0 := 1) rfl rfl rfl hl.1 rfl (Nat.le_of_ble_eq_true rfl) dX2_robot_28 ⟨(Nat.le_of_ble_eq_true rfl), (Nat.le_of_ble_eq_true rfl)⟩ ?_
    refine na_if_ne (tgt := 36) hx hb (bN_lt _) dX2_robot_31 (by decide) (fun h_31 => ?_) (fun h_31 => ?_)
    · skip
      refine lv_aload_n hx hb dX2_robot_36 rfl (lv_at hl 0 rfl) ?_
      refine lv_dup hx hb dX2_robot_37 rfl ?_
      refine va_get (D := D) (v := .int (nI (S 0 4))) hx hb hts hin_X2 hown hX.1 hP 0 rfl rfl 10 (by decide) hf_59 (fun _ h9 => h9) rfl dX2_robot_38 ?_
      refine lv_iconst (v := nI 1) hx hb dX2_robot_41 (by decide) ?_
      refine na_iadd hx hb dX2_robot_42 ?_
      refine va_put (D := D) (v := .int (nI ((S 0 4) + 1))) (ty := .int) hx hb hts hin_X2 tyX2 tyX2_ok nmX2 hown hX.1 hP hD hS 0 rfl rfl 10 (by decide) hf_59 (fun _ h9 => h9) rfl (by decide +kernel) rfl rfl (Nat.le_of_ble_eq_true rfl) dX2_robot_43 (fun H locs hP hD hS => ?_)
      have hP : va_P D vwCl (wC q k r (up2 S 0 4 ((S 0 4) + 1)) Z) H := sP_C0_10 hP
      have hD : va_D A (wC q k r (up2 S 0 4 ((S 0 4) + 1)) Z) := sD_C0_10 hD
      refine lv_aload_n hx hb dX2_robot_46 rfl (lv_at hl 0 rfl) ?_
      refine va_get (D := D) (v := .ref (q 18)) hx hb hts hin_X2 hown hX.1 hP 0 rfl rfl 2 (by decide) hf_23 (fun _ h9 => h9) rfl dX2_robot_47 ?_
      refine lv_aload_n hx hb dX2_robot_50 rfl (lv_at hl 0 rfl) ?_
      refine va_get (D := D) (v := .int (nI (S 0 2))) hx hb hts hin_X2 hown hX.1 hP 0 rfl rfl 3 (by decide) hf_118 (fun _ h9 => h9) rfl dX2_robot_51 ?_
      refine lv_iload_n hx hb dX2_robot_54 rfl (lv_at hl 1 rfl) ?_
      refine na_as (y := nI (iN x0)) (iN_eq (by omega)) ?_
      refine na_iast hx hb hX.1 hP hD hS 18 0 rfl rfl (by omega) (by decide) (upd_enc nI _ _ _) dX2_robot_55 (fun H locs hP hD hS => ?_)
      have hP : va_P D vwCl (wC q k r (up2 (up2 S 0 4 ((S 0 4) + 1)) 11 (S 0 2) (iN x0)) Z) H := sP_C18 hP
      have hD : va_D A (wC q k r (up2 (up2 S 0 4 ((S 0 4) + 1)) 11 (S 0 2) (iN x0)) Z) := sD_C18 hD
      refine lv_aload_n hx hb dX2_robot_56 rfl (lv_at hl 0 rfl) ?_
      refine lv_dup hx hb dX2_robot_57 rfl ?_
      refine va_get (D := D) (v := .int (nI (S 0 2))) hx hb hts hin_X2 hown hX.1 hP 0 rfl rfl 3 (by decide) hf_118 (fun _ h9 => h9) rfl dX2_robot_58 ?_
      refine lv_iconst (v := nI 1) hx hb dX2_robot_61 (by decide) ?_
      refine na_iadd hx hb dX2_robot_62 ?_
      refine va_put (D := D) (v := .int (nI ((S 0 2) + 1))) (ty := .int) hx hb hts hin_X2 tyX2 tyX2_ok nmX2 hown hX.1 hP hD hS 0 rfl rfl 3 (by decide) hf_118 (fun _ h9 => h9) rfl (by decide +kernel) rfl rfl (Nat.le_of_ble_eq_true rfl) dX2_robot_63 (fun H locs hP hD hS => ?_)
      have hP : va_P D vwCl (wC q k r (up2 (up2 (up2 S 0 4 ((S 0 4) + 1)) 11 (S 0 2) (iN x0)) 0 2 ((S 0 2) + 1)) Z) H := sP_C0_3 hP
      have hD : va_D A (wC q k r (up2 (up2 (up2 S 0 4 ((S 0 4) + 1)) 11 (S 0 2) (iN x0)) 0 2 ((S 0 2) + 1)) Z) := sD_C0_3 hD
      refine lv_aload_n hx hb dX2_robot_66 rfl (lv_at hl 0 rfl) ?_
      refine va_get (D := D) (v := .int (nI ((S 0 2) + 1))) hx hb hts hin_X2 hown hX.1 hP 0 rfl rfl 3 (by decide) hf_118 (fun _ h9 => h9) rfl dX2_robot_67 ?_
      refine lv_iconst (v := nI 1) hx hb dX2_robot_70 (by decide) ?_
      refine na_isub hx hb (by omega) dX2_robot_71 ?_
      refine vx_ret (W.widen (k := 2) (n := 12) (Nat.le_of_ble_eq_true rfl) (Nat.le_of_ble_eq_true rfl) ?_)
      exact W.iret (v := nI (((S 0 2) + 1) - 1)) hx hb hr (fun t ht hW => ⟨⟨_, ((up2 (up2 (up2 S 0 4 ((S 0 4) + 1)) 11 (S 0 2) (iN x0)) 0 2 ((S 0 2) + 1)), Z), rfl, (have fw : fitsW S (iN x0) = true := bN_pos h_31; ⟨c0, by rw [fw]; exact pI_s (S 0 2), by rw [roS, if_pos fw]; exact ro_ch, rfl⟩), by rw [ht]; exact hP, hD⟩, hS.F ht⟩) hS.2.2 dX2_robot_72
    · skip
      refine lv_iconst (v := pI 0) hx hb dX2_robot_34 (by decide) ?_
      refine vx_ret (W.widen (k := 2) (n := 12) (Nat.le_of_ble_eq_true rfl) (Nat.le_of_ble_eq_true rfl) ?_)
      exact W.iret (v := pI 0) hx hb hr (fun t ht hW => ⟨⟨_, (S, Z), rfl, (have fw : fitsW S (iN x0) = false := bN_zero h_31; ⟨c0, by rw [fw]; rfl, by rw [roS, fw]; rfl, rfl⟩), by rw [ht]; exact hP, hD⟩, hS.F ht⟩) hS.2.2 dX2_robot_35
  · skip
    exact th_row (is := 121) (text := "there are six robots") (rest := []) hx hb hst hown (by decide +kernel) (by decide +kernel) (hts (.classLink RX2 54 eUO) (by decide +kernel)) (hts (.initialized eUO) (by decide +kernel)) hT (by decide +kernel) (by decide +kernel) hg_58 bd_UO gd_UO hZ hS (hl.1.trans hml.symm) dX2_robot_13 dX2_robot_16 dX2_robot_17 dX2_robot_19 dX2_robot_22 hno (Nat.le_of_ble_eq_true rfl) (Nat.le_of_ble_eq_true rfl) (Nat.le_of_ble_eq_true rfl) (Nat.le_of_ble_eq_true rfl) hlocks (fun t hvm h1 h2 => ⟨(), trivial, ⟨Or.inr ⟨rfl, cd2_2 (ok := okR x0) (full := S 0 2 = 6) hw_1 (by omega)⟩, th_P hP h2, hD⟩, th_F hS h1 h2⟩) hS.2.2 (Nat.le_of_ble_eq_true rfl) (Nat.le_of_ble_eq_true rfl)

set_option maxHeartbeats 4000000 in
set_option maxRecDepth 100000 in
theorem k_X2_charger (l : Launch) (hst : l.stackTraces = false) (D : va_G) (q : Nat → Nat) (k : Nat → ClassId) (r : Nat → Nat) (S Z : Nat → Nat → Nat) (sz : Nat) (x0 : Int32) (hB : Bd S) : vx_Met l yX2_charger wsX2_charger ({ frames := 7, cells := 2, slots := 12, locals := 111 } : Room) (va_Pc [.ref (q 0), .int x0] (tB D k (wC q k r S Z) sz)) (va_Qi (fun (r : Int32) (u : (Nat → Nat → Nat) × (Nat → Nat → Nat)) => cdC S x0 = 0 ∧ r = nI (S 0 3 + 1) ∧ u.1 = chS S (iN x0) ∧ u.2 = Z) (fun u t => wE D (va_A (wC q k r S Z) sz) (wC q k r u.1 u.2) t) (va_A (wC q k r S Z) sz)) (vx_X (fun _ : Unit => True) (fun E _ t => ((E = eIA ∧ cdC S x0 = 1) ∨ (E = eIS ∧ cdC S x0 = 2) ∨ (E = eUO ∧ cdC S x0 = 3)) ∧ wE D (va_A (wC q k r S Z) sz) (wC q k r S Z) t) (va_A (wC q k r S Z) sz)) 2 12 (va_A (wC q k r S Z) sz) := by
  refine vx_ofW (cc := cX2_charger) (maxL := 2) (ret := (some .int)) (by decide) rfl ?_
  intro p e s m args below meth c s₁ B hml hno hv
  obtain ⟨rfl, ⟨hsz, hP, hX, hD0⟩, hT, hZ⟩ := hv
  have hx := B.exec
  have hb := B.bytes
  have hr := B.returns
  have hts := atoms_spec (ws := wsX2_charger) B.pre
  have hown : s.vm.findClass RX2 = some m.cls := findClass_of_methodNamed B.named
  have hlocks := B.notSynchronized
  subst hsz
  have hD := hD0.self (sz := s.heap.size)
  generalize hAe : va_A (wC q k r S Z) s.heap.size = A at hD hZ ⊢
  have hA : ∀ q : Nat, s.heap.size ≤ q → A q := fun q h => by rw [← hAe]; exact Or.inr h
  have hS : va_S A s.heap s.heap [] := va_S.rf
  have hP : va_P D vwCl (wC q k r S Z) s.heap := hP
  have hf_27 := hts (.fieldLink RX2 27 "FloorGraph" "chargerPieces" "[I") (by decide +kernel)
  have hf_59 := hts (.fieldLink RX2 59 "FloorGraph" "changes" "I") (by decide +kernel)
  have hf_158 := hts (.fieldLink RX2 158 "FloorGraph" "chargers" "I") (by decide +kernel)
  have hin_X2 : ∀ w ∈ u_ws RX2 TX2 12, w ∈ wsX2_charger := by decide +kernel
  have hg_58 : ∀ w ∈ (vx_atS RX2 58 eUO nm2).filter goodWord, w.before [.ref (q 0), .int x0].toArray s = true := fun w h => hts w (List.mem_cons_of_mem _ (List.mem_append_left _ (List.mem_append_right _ h)))
  have hg_157 : ∀ w ∈ (vx_atS RX2 157 eIS nm2).filter goodWord, w.before [.ref (q 0), .int x0].toArray s = true := fun w h => hts w (List.mem_cons_of_mem _ (List.mem_append_left _ (List.mem_append_left _ (List.mem_append_right _ h))))
  have f0 := hB.1
  have hl := lv_entry ([.ref (q 0), .int x0]) (n := 2) (Nat.le_of_ble_eq_true rfl)
  rw [lg_entry_eq]
  generalize (lg_sl ([.ref (q 0), .int x0]) ++ List.replicate (2 - (lg_sl ([.ref (q 0), .int x0])).length) Slot.unset).toArray = ls at hl ⊢
  have hl : lv_has ls 2 [(0, .ref (q 0)), (1, .int x0)] := hl
  refine lv_aload_n hx hb dX2_charger_0 rfl (lv_at hl 0 rfl) ?_
  refine lv_iload_n hx hb dX2_charger_1 rfl (lv_at hl 1 rfl) ?_
  refine xr_Vv (As := [.int x0]) (rest := []) ⟨hx, hb, hml, hown, hts⟩ (k_X2_needPiece l hst D q k r S Z _ x0 hB) (cwV 1 hts gX2_charger_X2_needPiece rfl rfl rfl (by decide +kernel) ⟨by decide, by decide⟩) hX hT hZ hP hD hS hA (q0 := 0) rfl rfl rfl hl.1 rfl (Nat.le_of_ble_eq_true rfl) dX2_charger_2 ⟨(Nat.le_of_ble_eq_true rfl), (Nat.le_of_ble_eq_true rfl)⟩ hno hlocks (Nat.le_of_ble_eq_true rfl) (Nat.le_of_ble_eq_true rfl) (fun _ h => h) (fun E u t _ hxe hvm hP9 hD9 hF9 => ⟨(), trivial, ⟨Or.inl ⟨hxe.1, cdC_1 hxe.2⟩, hP9, hD9⟩, hF9⟩) (fun u_1 H locs hw_1 hP hD hS => ?_)
  obtain ⟨S_1, Z_1⟩ := u_1
  obtain ⟨e1, e2, hk_1⟩ := hw_1
  dsimp only at e1 e2 hP hD
  rw [e1, e2] at hP hD
  have hP : va_P D vwCl (wC q k r S Z) H := hP
  have hD : va_D A (wC q k r S Z) := hD
  have l0 := hk_1.lt
  have j0 := iN_toInt (x := x0) hk_1.1
  refine lv_aload_n hx hb dX2_charger_5 rfl (lv_at hl 0 rfl) ?_
  refine lv_iload_n hx hb dX2_charger_6 rfl (lv_at hl 1 rfl) ?_
  refine na_as (y := nI (iN x0)) (iN_eq hk_1.1) ?_
  refine rd_V (As := [.int (nI (iN x0))]) (rest := []) ⟨hx, hb, hml, hown, hts⟩ (k_X2_hasCharger l D q k r S Z (iN x0) hB (by omega)) (cwV 1 hts gX2_charger_X2_hasCharger rfl rfl rfl (by decide +kernel) ⟨by decide, by decide⟩) hX hP (q0 := 0) rfl rfl rfl hl.1 rfl (Nat.le_of_ble_eq_true rfl) dX2_charger_7 ⟨(Nat.le_of_ble_eq_true rfl), (Nat.le_of_ble_eq_true rfl)⟩ ?_
  refine na_if_eq (tgt := 23) hx hb (bN_lt _) dX2_charger_10 (by decide) (fun h_10 => ?_) (fun h_10 => ?_)
  · skip
    refine lv_aload_n hx hb dX2_charger_23 rfl (lv_at hl 0 rfl) ?_
    refine va_get (D := D) (v := .int (nI (S 0 3))) hx hb hts hin_X2 hown hX.1 hP 0 rfl rfl 5 (by decide) hf_158 (fun _ h9 => h9) rfl dX2_charger_24 ?_
    refine lv_bipush (v := nI 8) hx hb dX2_charger_27 (by decide) ?_
    refine na_icmp_lt (tgt := 42) hx hb (by omega) (by omega) dX2_charger_29 (by decide) (fun h_29 => ?_) (fun h_29 => ?_)
    · skip
      refine lv_aload_n hx hb dX2_charger_42 rfl (lv_at hl 0 rfl) ?_
      refine lv_dup hx hb dX2_charger_43 rfl ?_
      refine va_get (D := D) (v := .int (nI (S 0 4))) hx hb hts hin_X2 hown hX.1 hP 0 rfl rfl 10 (by decide) hf_59 (fun _ h9 => h9) rfl dX2_charger_44 ?_
      refine lv_iconst (v := nI 1) hx hb dX2_charger_47 (by decide) ?_
      refine na_iadd hx hb dX2_charger_48 ?_
      refine va_put (D := D) (v := .int (nI ((S 0 4) + 1))) (ty := .int) hx hb hts hin_X2 tyX2 tyX2_ok nmX2 hown hX.1 hP hD hS 0 rfl rfl 10 (by decide) hf_59 (fun _ h9 => h9) rfl (by decide +kernel) rfl rfl (Nat.le_of_ble_eq_true rfl) dX2_charger_49 (fun H locs hP hD hS => ?_)
      have hP : va_P D vwCl (wC q k r (up2 S 0 4 ((S 0 4) + 1)) Z) H := sP_C0_10 hP
      have hD : va_D A (wC q k r (up2 S 0 4 ((S 0 4) + 1)) Z) := sD_C0_10 hD
      refine lv_aload_n hx hb dX2_charger_52 rfl (lv_at hl 0 rfl) ?_
      refine va_get (D := D) (v := .ref (q 19)) hx hb hts hin_X2 hown hX.1 hP 0 rfl rfl 4 (by decide) hf_27 (fun _ h9 => h9) rfl dX2_charger_53 ?_
      refine lv_aload_n hx hb dX2_charger_56 rfl (lv_at hl 0 rfl) ?_
      refine va_get (D := D) (v := .int (nI (S 0 3))) hx hb hts hin_X2 hown hX.1 hP 0 rfl rfl 5 (by decide) hf_158 (fun _ h9 => h9) rfl dX2_charger_57 ?_
      refine lv_iload_n hx hb dX2_charger_60 rfl (lv_at hl 1 rfl) ?_
      refine na_as (y := nI (iN x0)) (iN_eq hk_1.1) ?_
      refine na_iast hx hb hX.1 hP hD hS 19 0 rfl rfl (by omega) (by decide) (upd_enc nI _ _ _) dX2_charger_61 (fun H locs hP hD hS => ?_)
      have hP : va_P D vwCl (wC q k r (up2 (up2 S 0 4 ((S 0 4) + 1)) 12 (S 0 3) (iN x0)) Z) H := sP_C19 hP
      have hD : va_D A (wC q k r (up2 (up2 S 0 4 ((S 0 4) + 1)) 12 (S 0 3) (iN x0)) Z) := sD_C19 hD
      refine lv_aload_n hx hb dX2_charger_62 rfl (lv_at hl 0 rfl) ?_
      refine lv_dup hx hb dX2_charger_63 rfl ?_
      refine va_get (D := D) (v := .int (nI (S 0 3))) hx hb hts hin_X2 hown hX.1 hP 0 rfl rfl 5 (by decide) hf_158 (fun _ h9 => h9) rfl dX2_charger_64 ?_
      refine lv_iconst (v := nI 1) hx hb dX2_charger_67 (by decide) ?_
      refine na_iadd hx hb dX2_charger_68 ?_
      refine va_put (D := D) (v := .int (nI ((S 0 3) + 1))) (ty := .int) hx hb hts hin_X2 tyX2 tyX2_ok nmX2 hown hX.1 hP hD hS 0 rfl rfl 5 (by decide) hf_158 (fun _ h9 => h9) rfl (by decide +kernel) rfl rfl (Nat.le_of_ble_eq_true rfl) dX2_charger_69 (fun H locs hP hD hS => ?_)
      have hP : va_P D vwCl (wC q k r (up2 (up2 (up2 S 0 4 ((S 0 4) + 1)) 12 (S 0 3) (iN x0)) 0 3 ((S 0 3) + 1)) Z) H := sP_C0_5 hP
      have hD : va_D A (wC q k r (up2 (up2 (up2 S 0 4 ((S 0 4) + 1)) 12 (S 0 3) (iN x0)) 0 3 ((S 0 3) + 1)) Z) := sD_C0_5 hD
      refine lv_aload_n hx hb dX2_charger_72 rfl (lv_at hl 0 rfl) ?_
      refine va_get (D := D) (v := .int (nI ((S 0 3) + 1))) hx hb hts hin_X2 hown hX.1 hP 0 rfl rfl 5 (by decide) hf_158 (fun _ h9 => h9) rfl dX2_charger_73 ?_
      refine vx_ret (W.widen (k := 2) (n := 12) (Nat.le_of_ble_eq_true rfl) (Nat.le_of_ble_eq_true rfl) ?_)
      exact W.iret (v := nI ((S 0 3) + 1)) hx hb hr (fun t ht hW => ⟨⟨_, ((up2 (up2 (up2 S 0 4 ((S 0 4) + 1)) 12 (S 0 3) (iN x0)) 0 3 ((S 0 3) + 1)), Z), rfl, ⟨cdC_0 hk_1 (bN_zero h_10) (by omega), rfl, ch_ch, rfl⟩, by rw [ht]; exact hP, hD⟩, hS.F ht⟩) hS.2.2 dX2_charger_76
    · skip
      exact th_row (is := 161) (text := "there are eight chargers") (rest := []) hx hb hst hown (by decide +kernel) (by decide +kernel) (hts (.classLink RX2 54 eUO) (by decide +kernel)) (hts (.initialized eUO) (by decide +kernel)) hT (by decide +kernel) (by decide +kernel) hg_58 bd_UO gd_UO hZ hS (hl.1.trans hml.symm) dX2_charger_32 dX2_charger_35 dX2_charger_36 dX2_charger_38 dX2_charger_41 hno (Nat.le_of_ble_eq_true rfl) (Nat.le_of_ble_eq_true rfl) (Nat.le_of_ble_eq_true rfl) (Nat.le_of_ble_eq_true rfl) hlocks (fun t hvm h1 h2 => ⟨(), trivial, ⟨Or.inr (Or.inr ⟨rfl, cdC_3 hk_1 (bN_zero h_10) (by omega)⟩), th_P hP h2, hD⟩, th_F hS h1 h2⟩) hS.2.2 (Nat.le_of_ble_eq_true rfl) (Nat.le_of_ble_eq_true rfl)
  · skip
    exact th_row (is := 155) (text := "the piece has a charger") (rest := []) hx hb hst hown (by decide +kernel) (by decide +kernel) (hts (.classLink RX2 153 eIS) (by decide +kernel)) (hts (.initialized eIS) (by decide +kernel)) hT (by decide +kernel) (by decide +kernel) hg_157 bd_IS gd_IS hZ hS (hl.1.trans hml.symm) dX2_charger_13 dX2_charger_16 dX2_charger_17 dX2_charger_19 dX2_charger_22 hno (Nat.le_of_ble_eq_true rfl) (Nat.le_of_ble_eq_true rfl) (Nat.le_of_ble_eq_true rfl) (Nat.le_of_ble_eq_true rfl) hlocks (fun t hvm h1 h2 => ⟨(), trivial, ⟨Or.inr (Or.inl ⟨rfl, cdC_2 hk_1 (bN_pos h_10)⟩), th_P hP h2, hD⟩, th_F hS h1 h2⟩) hS.2.2 (Nat.le_of_ble_eq_true rfl) (Nat.le_of_ble_eq_true rfl)

set_option maxHeartbeats 4000000 in
set_option maxRecDepth 100000 in
theorem k_X2_step (l : Launch) (D : va_G) (q : Nat → Nat) (k : Nat → ClassId) (r : Nat → Nat) (S Z : Nat → Nat → Nat) (x0 : Int32) (hB : Bd S) : Met l yX2_step wsX2_step ({ frames := 0, cells := 0, slots := 0, locals := 0 } : Room) (va_Pc [.ref (q 0), .int x0] (rB D k (wC q k r S Z))) (vp_Si (fun r => r = pI (stepR S x0))) 0 0 (fun _ => False) := by
  refine Met.ofW (cc := cX2_step) (maxL := 2) (ret := (some .int)) (by decide) rfl ?_
  intro p e s m args below meth c s₁ B hml hv
  obtain ⟨rfl, hP, hX⟩ := hv
  have hx := B.exec
  have hb := B.bytes
  have hr := B.returns
  have hts := atoms_spec (ws := wsX2_step) B.pre
  have hown : s.vm.findClass RX2 = some m.cls := findClass_of_methodNamed B.named
  have hlocks := B.notSynchronized
  have hf_30 := hts (.fieldLink RX2 30 "FloorGraph" "wayBack" "[I") (by decide +kernel)
  have hf_143 := hts (.fieldLink RX2 143 "FloorGraph" "waySize" "I") (by decide +kernel)
  have hin_X2 : ∀ w ∈ u_ws RX2 TX2 12, w ∈ wsX2_step := by decide +kernel
  have f0 := hB.1
  have f1 := nI_toInt (n := S 0 6) (by omega)
  have hl := lv_entry ([.ref (q 0), .int x0]) (n := 2) (Nat.le_of_ble_eq_true rfl)
  rw [lg_entry_eq]
  generalize (lg_sl ([.ref (q 0), .int x0]) ++ List.replicate (2 - (lg_sl ([.ref (q 0), .int x0])).length) Slot.unset).toArray = ls at hl ⊢
  have hl : lv_has ls 2 [(0, .ref (q 0)), (1, .int x0)] := hl
  refine lv_iload_n hx hb dX2_step_0 rfl (lv_at hl 1 rfl) ?_
  refine nr_if_lt (tgt := 12) hx hb dX2_step_1 (by decide) (fun h_1 => ?_) (fun h_1 => ?_)
  · skip
    refine lv_iconst (v := pI 0) hx hb dX2_step_12 (by decide) ?_
    exact W.iret (v := pI 0) hx hb hr (fun t ht hW => ⟨_, rfl, by rw [stepR, if_neg (by omega)], ht⟩) (fun _ h => by cases h) dX2_step_13
  · skip
    refine lv_iload_n hx hb dX2_step_4 rfl (lv_at hl 1 rfl) ?_
    refine lv_aload_n hx hb dX2_step_5 rfl (lv_at hl 0 rfl) ?_
    refine va_get (D := D) (v := .int (nI (S 0 6))) hx hb hts hin_X2 hown hX.1 hP 0 rfl rfl 7 (by decide) hf_143 (fun _ h9 => h9) rfl dX2_step_6 ?_
    refine nr_icmp_lt (tgt := 14) hx hb dX2_step_9 (by decide) (fun h_9 => ?_) (fun h_9 => ?_)
    · skip
      rw [f1] at h_9
      have j0 := iN_toInt (x := x0) (by omega)
      refine lv_aload_n hx hb dX2_step_14 rfl (lv_at hl 0 rfl) ?_
      refine va_get (D := D) (v := .ref (q 20)) hx hb hts hin_X2 hown hX.1 hP 0 rfl rfl 6 (by decide) hf_30 (fun _ h9 => h9) rfl dX2_step_15 ?_
      refine lv_aload_n hx hb dX2_step_18 rfl (lv_at hl 0 rfl) ?_
      refine va_get (D := D) (v := .int (nI (S 0 6))) hx hb hts hin_X2 hown hX.1 hP 0 rfl rfl 7 (by decide) hf_143 (fun _ h9 => h9) rfl dX2_step_19 ?_
      refine lv_iconst (v := nI 1) hx hb dX2_step_22 (by decide) ?_
      refine na_isub hx hb (by omega) dX2_step_23 ?_
      refine lv_iload_n hx hb dX2_step_24 rfl (lv_at hl 1 rfl) ?_
      refine na_as (y := nI (iN x0)) (iN_eq (by omega)) ?_
      refine na_isub hx hb (by omega) dX2_step_25 ?_
      refine na_iald hx hb hX.1 hP 20 0 rfl rfl (by omega) (by decide) dX2_step_26 ?_
      exact W.iret (v := nI (S 14 (((S 0 6) - 1) - (iN x0)))) hx hb hr (fun t ht hW => ⟨_, rfl, by rw [stepR, if_pos (by omega)]; exact pI_s _, ht⟩) (fun _ h => by cases h) dX2_step_27
    · skip
      rw [f1] at h_9
      refine lv_iconst (v := pI 0) hx hb dX2_step_12 (by decide) ?_
      exact W.iret (v := pI 0) hx hb hr (fun t ht hW => ⟨_, rfl, by rw [stepR, if_neg (by omega)], ht⟩) (fun _ h => by cases h) dX2_step_13

set_option maxHeartbeats 4000000 in
set_option maxRecDepth 100000 in
theorem k_X2_count (l : Launch) (D : va_G) (q : Nat → Nat) (k : Nat → ClassId) (r : Nat → Nat) (S Z : Nat → Nat → Nat) (x0 : Int32) (hB : Bd S) : Met l yX2_count wsX2_count ({ frames := 1, cells := 0, slots := 0, locals := 24 } : Room) (va_Pc [.ref (q 0), .int x0] (rB D k (wC q k r S Z))) (vp_Si (fun r => r = pI (cntR S x0))) 0 0 (fun _ => False) := by
  refine Met.ofW (cc := cX2_count) (maxL := 2) (ret := (some .int)) (by decide) rfl ?_
  intro p e s m args below meth c s₁ B hml hv
  obtain ⟨rfl, hP, hX⟩ := hv
  have hx := B.exec
  have hb := B.bytes
  have hr := B.returns
  have hts := atoms_spec (ws := wsX2_count) B.pre
  have hown : s.vm.findClass RX2 = some m.cls := findClass_of_methodNamed B.named
  have hlocks := B.notSynchronized
  have hf_12 := hts (.fieldLink RX2 12 "FloorGraph" "floor" "LFloorGraph$Floor;") (by decide +kernel)
  have hf_50 : (Cond.fieldLinkNest "FloorGraph" 50 "FloorGraph$Floor" "pieces" "I" "FloorGraph").before _ s = true := va_Nw.use (A := [.ref (q 0), .int x0].toArray) rfl (hX.2.1 ("FloorGraph", 50, "FloorGraph$Floor", "pieces", "I", "FloorGraph") (by decide +kernel))
  have hf_86 : (Cond.fieldLinkNest "FloorGraph" 86 "FloorGraph$Floor" "passages" "I" "FloorGraph").before _ s = true := va_Nw.use (A := [.ref (q 0), .int x0].toArray) rfl (hX.2.1 ("FloorGraph", 86, "FloorGraph$Floor", "passages", "I", "FloorGraph") (by decide +kernel))
  have hf_118 := hts (.fieldLink RX2 118 "FloorGraph" "robots" "I") (by decide +kernel)
  have hf_158 := hts (.fieldLink RX2 158 "FloorGraph" "chargers" "I") (by decide +kernel)
  have hin_X1 : ∀ w ∈ u_ws RX1 TX1 14, w ∈ wsX2_count := by decide +kernel
  have hin_X2 : ∀ w ∈ u_ws RX2 TX2 12, w ∈ wsX2_count := by decide +kernel
  have f0 := hB.1
  have hl := lv_entry ([.ref (q 0), .int x0]) (n := 2) (Nat.le_of_ble_eq_true rfl)
  rw [lg_entry_eq]
  generalize (lg_sl ([.ref (q 0), .int x0]) ++ List.replicate (2 - (lg_sl ([.ref (q 0), .int x0])).length) Slot.unset).toArray = ls at hl ⊢
  have hl : lv_has ls 2 [(0, .ref (q 0)), (1, .int x0)] := hl
  refine lv_iload_n hx hb dX2_count_0 rfl (lv_at hl 1 rfl) ?_
  by_cases hs : x0.toInt < 0 ∨ 4 < x0.toInt
  · refine lv_tableOut (tgt := 80) hx hb dX2_count_1 hs (by decide) ?_
    refine lv_iconst (v := pI 0) hx hb dX2_count_80 (by decide) ?_
    exact W.iret (v := pI 0) hx hb hr (fun t ht hW => ⟨_, rfl, cnt_e Nat.one_pos (by omega) (show x0.toInt ≠ 1 by omega) (show x0.toInt ≠ 2 by omega) (show x0.toInt ≠ 3 by omega) (show x0.toInt ≠ 4 by omega), ht⟩) (fun _ h => by cases h) dX2_count_81
  by_cases hs0 : x0.toInt = 0
  · refine lv_tableIn (tgt := 36) hx hb dX2_count_1 (by omega) (by omega) (by rw [hs0]; rfl) (by decide) ?_
    refine lv_aload_n hx hb dX2_count_36 rfl (lv_at hl 0 rfl) ?_
    refine va_get (D := D) (v := .ref (q 1)) hx hb hts hin_X2 hown hX.1 hP 0 rfl rfl 0 (by decide) hf_12 (fun _ h9 => h9) rfl dX2_count_37 ?_
    refine va_getN (D := D) (v := .int (nI (S 0 0))) hx hb hts hin_X1 hown hX.1 hP 1 rfl rfl 0 (by decide) hf_50 (fun _ h9 => h9) rfl dX2_count_40 ?_
    exact W.iret (v := nI (S 0 0)) hx hb hr (fun t ht hW => ⟨_, rfl, cnt_0 hs0, ht⟩) (fun _ h => by cases h) dX2_count_43
  by_cases hs1 : x0.toInt = 1
  · refine lv_tableIn (tgt := 44) hx hb dX2_count_1 (by omega) (by omega) (by rw [hs1]; rfl) (by decide) ?_
    refine lv_aload_n hx hb dX2_count_44 rfl (lv_at hl 0 rfl) ?_
    refine va_get (D := D) (v := .ref (q 1)) hx hb hts hin_X2 hown hX.1 hP 0 rfl rfl 0 (by decide) hf_12 (fun _ h9 => h9) rfl dX2_count_45 ?_
    refine va_getN (D := D) (v := .int (nI (S 0 1))) hx hb hts hin_X1 hown hX.1 hP 1 rfl rfl 7 (by decide) hf_86 (fun _ h9 => h9) rfl dX2_count_48 ?_
    refine lv_iconst (v := nI 2) hx hb dX2_count_51 (by decide) ?_
    refine na_idiv2 hx hb (by omega) dX2_count_52 ?_
    exact W.iret (v := nI ((S 0 1) / 2)) hx hb hr (fun t ht hW => ⟨_, rfl, cnt_1 hs0 hs1, ht⟩) (fun _ h => by cases h) dX2_count_53
  by_cases hs2 : x0.toInt = 2
  · refine lv_tableIn (tgt := 54) hx hb dX2_count_1 (by omega) (by omega) (by rw [hs2]; rfl) (by decide) ?_
    refine lv_aload_n hx hb dX2_count_54 rfl (lv_at hl 0 rfl) ?_
    refine va_get (D := D) (v := .int (nI (S 0 2))) hx hb hts hin_X2 hown hX.1 hP 0 rfl rfl 3 (by decide) hf_118 (fun _ h9 => h9) rfl dX2_count_55 ?_
    exact W.iret (v := nI (S 0 2)) hx hb hr (fun t ht hW => ⟨_, rfl, cnt_2 hs0 (show x0.toInt ≠ 1 by omega) hs2, ht⟩) (fun _ h => by cases h) dX2_count_58
  by_cases hs3 : x0.toInt = 3
  · refine lv_tableIn (tgt := 59) hx hb dX2_count_1 (by omega) (by omega) (by rw [hs3]; rfl) (by decide) ?_
    refine lv_aload_n hx hb dX2_count_59 rfl (lv_at hl 0 rfl) ?_
    refine va_get (D := D) (v := .int (nI (S 0 3))) hx hb hts hin_X2 hown hX.1 hP 0 rfl rfl 5 (by decide) hf_158 (fun _ h9 => h9) rfl dX2_count_60 ?_
    exact W.iret (v := nI (S 0 3)) hx hb hr (fun t ht hW => ⟨_, rfl, cnt_3 hs0 (show x0.toInt ≠ 1 by omega) (show x0.toInt ≠ 2 by omega) hs3, ht⟩) (fun _ h => by cases h) dX2_count_63
  have hs4 : x0.toInt = 4 := by omega
  refine lv_tableIn (tgt := 64) hx hb dX2_count_1 (by omega) (by omega) (by rw [hs4]; rfl) (by decide) ?_
  refine lv_aload_n hx hb dX2_count_64 rfl (lv_at hl 0 rfl) ?_
  refine va_get (D := D) (v := .ref (q 1)) hx hb hts hin_X2 hown hX.1 hP 0 rfl rfl 0 (by decide) hf_12 (fun _ h9 => h9) rfl dX2_count_65 ?_
  refine lv_iconst (v := nI 0) hx hb dX2_count_68 (by decide) ?_
  refine lv_aload_n hx hb dX2_count_69 rfl (lv_at hl 0 rfl) ?_
  refine va_get (D := D) (v := .ref (q 1)) hx hb hts hin_X2 hown hX.1 hP 0 rfl rfl 0 (by decide) hf_12 (fun _ h9 => h9) rfl dX2_count_70 ?_
  refine va_getN (D := D) (v := .int (nI (S 0 1))) hx hb hts hin_X1 hown hX.1 hP 1 rfl rfl 7 (by decide) hf_86 (fun _ h9 => h9) rfl dX2_count_73 ?_
  refine rd_N (As := [.int (nI 0), .int (nI (S 0 1))]) (rest := []) ⟨hx, hb, hml, hown, hts⟩ (k_X1_barredAmong l D q k r S Z 0 (S 0 1) hB (Nat.zero_le _) (by omega)) ⟨va_cnB 2 hts gX2_count_X1_barredAmong_n95 rfl rfl rfl (hX.2.2 ("FloorGraph", 95, yX1_barredAmong) (by decide +kernel)) (hts (.initialized RX1) (by decide +kernel)) (by decide +kernel) ⟨by decide, by decide⟩, hts (.instanceMethod yX1_barredAmong) (by decide +kernel), hts (.selects RX1 yX1_barredAmong yX1_barredAmong) (by decide +kernel)⟩ hX hP (q0 := 1) rfl rfl rfl hl.1 rfl (Nat.le_of_ble_eq_true rfl) dX2_count_76 ⟨Nat.zero_le _, Nat.zero_le _⟩ ?_
  exact W.iret (v := nI (sm (S 10) 0 ((S 0 1) - 0))) hx hb hr (fun t ht hW => ⟨_, rfl, cnt_4 (show x0.toInt = 4 by omega), ht⟩) (fun _ h => by cases h) dX2_count_79
