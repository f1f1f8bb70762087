set_option maxHeartbeats 4000000 in
set_option maxRecDepth 100000 in
theorem k_X3_in (l : Launch) (v0 : Int32) (a0 : Int32) (b0 : Int32) : Met l yX3_in wsX3_in ({ frames := 0, cells := 0, slots := 0, locals := 0 } : Room) (va_Pc [.int v0, .int a0, .int b0] (fun _ => True)) (vp_Si (fun r => r = nI (bN (inR a0.toInt b0.toInt v0)))) 0 0 (fun _ => False) := by
  refine Met.ofW (cc := cX3_in) (maxL := 3) (ret := (some .boolean)) (by decide) rfl ?_
  intro p e s m args below meth c s₁ B hml hv
  obtain ⟨rfl, -⟩ := hv
  have hx := B.exec
  have hb := B.bytes
  have hr := B.returns
  have hts := atoms_spec (ws := wsX3_in) B.pre
  have hown : s.vm.findClass RX3 = some m.cls := findClass_of_methodNamed B.named
  have hlocks := B.notSynchronized
  have hl := lv_entry ([.int v0, .int a0, .int b0]) (n := 3) (Nat.le_of_ble_eq_true rfl)
  rw [lg_entry_eq]
  generalize (lg_sl ([.int v0, .int a0, .int b0]) ++ List.replicate (3 - (lg_sl ([.int v0, .int a0, .int b0])).length) Slot.unset).toArray = ls at hl ⊢
  have hl : lv_has ls 3 [(0, .int v0), (1, .int a0), (2, .int b0)] := hl
  refine lv_iload_n hx hb dX3_in_0 rfl (lv_at hl 0 rfl) ?_
  refine lv_iload_n hx hb dX3_in_1 rfl (lv_at hl 1 rfl) ?_
  refine nr_icmp_lt (tgt := 14) hx hb dX3_in_2 (by decide) (fun h_2 => ?_) (fun h_2 => ?_)
  · skip
    refine lv_iconst (v := nI 0) hx hb dX3_in_14 (by decide) ?_
    exact W.zret (v := nI 0) hx hb hr (nar_b _ (by first | decide | omega | exact bN_le _)) (fun t ht hW => ⟨_, rfl, bN0 (inR_f (by omega)), ht⟩) (fun _ h => by cases h) dX3_in_15
  · skip
    refine lv_iload_n hx hb dX3_in_5 rfl (lv_at hl 0 rfl) ?_
    refine lv_iload_n hx hb dX3_in_6 rfl (lv_at hl 2 rfl) ?_
    refine nr_icmp_gt (tgt := 14) hx hb dX3_in_7 (by decide) (fun h_7 => ?_) (fun h_7 => ?_)
    · skip
      refine lv_iconst (v := nI 0) hx hb dX3_in_14 (by decide) ?_
      exact W.zret (v := nI 0) hx hb hr (nar_b _ (by first | decide | omega | exact bN_le _)) (fun t ht hW => ⟨_, rfl, bN0 (inR_f (by omega)), ht⟩) (fun _ h => by cases h) dX3_in_15
    · skip
      refine lv_iconst (v := nI 1) hx hb dX3_in_10 (by decide) ?_
      refine lv_goto (tgt := 15) hx hb dX3_in_11 (by decide) ?_
      exact W.zret (v := nI 1) hx hb hr (nar_b _ (by first | decide | omega | exact bN_le _)) (fun t ht hW => ⟨_, rfl, bN1 (inR_t (by omega) (by omega)), ht⟩) (fun _ h => by cases h) dX3_in_15

set_option maxHeartbeats 4000000 in
set_option maxRecDepth 100000 in
theorem k_X3_isPiece (l : Launch) (D : va_G) (q : Nat → Nat) (k : Nat → ClassId) (S Z : Nat → Nat → Nat) (x0 : Int32) (hn : S 0 0 ≤ 20) : Met l yX3_isPiece wsX3_isPiece ({ frames := 1, cells := 0, slots := 0, locals := 22 } : Room) (va_Pc [.ref (q 0), .int x0] (rB D k (wM q k S Z))) (vp_Si (fun r => r = nI (bN (inR 0 ((S 0 0 : Int) - 1) x0)))) 0 0 (fun _ => False) := by
  refine Met.ofW (cc := cX3_isPiece) (maxL := 2) (ret := (some .boolean)) (by decide) rfl ?_
  intro p e s m args below meth c s₁ B hml hv
  obtain ⟨rfl, hP, hX⟩ := hv
  have hx := B.exec
  have hb := B.bytes
  have hr := B.returns
  have hts := atoms_spec (ws := wsX3_isPiece) B.pre
  have hown : s.vm.findClass RX3 = some m.cls := findClass_of_methodNamed B.named
  have hlocks := B.notSynchronized
  have hf_63 := hts (.fieldLink RX3 63 "FloorGraphModel" "pieces" "I") (by decide +kernel)
  have hin_X3 : ∀ w ∈ u_ws RX3 TX3 24, w ∈ wsX3_isPiece := by decide +kernel
  have hl := lv_entry ([.ref (q 0), .int x0]) (n := 2) (Nat.le_of_ble_eq_true rfl)
  rw [lg_entry_eq]
  generalize (lg_sl ([.ref (q 0), .int x0]) ++ List.replicate (2 - (lg_sl ([.ref (q 0), .int x0])).length) Slot.unset).toArray = ls at hl ⊢
  have hl : lv_has ls 2 [(0, .ref (q 0)), (1, .int x0)] := hl
  refine lv_iload_n hx hb dX3_isPiece_0 rfl (lv_at hl 1 rfl) ?_
  refine lv_iconst (v := nI 0) hx hb dX3_isPiece_1 (by decide) ?_
  refine lv_aload_n hx hb dX3_isPiece_2 rfl (lv_at hl 0 rfl) ?_
  refine va_get (D := D) (v := .int (nI (S 0 0))) hx hb hts hin_X3 hown hX.1 hP 0 rfl rfl 1 (by decide) hf_63 (fun _ h9 => h9) rfl dX3_isPiece_3 ?_
  refine lv_iconst (v := nI 1) hx hb dX3_isPiece_6 (by decide) ?_
  refine lv_isub hx hb dX3_isPiece_7 ?_
  refine na_as (y := pI (S 0 0)) rfl ?_
  refine rd_S (As := [.int x0, .int (nI 0), .int (pI (S 0 0))]) (rest := []) ⟨hx, hb, hml, hown, hts⟩ (k_X3_in l x0 (nI 0) (pI (S 0 0)) ) (va_cwS 3 hts gX3_isPiece_X3_in rfl rfl rfl (by decide +kernel) ⟨by decide, by decide⟩) rfl hl.1 rfl (Nat.le_of_ble_eq_true rfl) dX3_isPiece_8 ⟨Nat.zero_le _, Nat.zero_le _⟩ ?_
  exact W.zret (v := nI (bN (inR (nI 0).toInt (pI (S 0 0)).toInt x0))) hx hb hr (nar_b _ (by first | decide | omega | exact bN_le _)) (fun t ht hW => ⟨_, rfl, by rw [pI_toInt (by omega)]; rfl, ht⟩) (fun _ h => by cases h) dX3_isPiece_11

set_option maxHeartbeats 4000000 in
set_option maxRecDepth 100000 in
theorem k_X3_isDrive (l : Launch) (D : va_G) (q : Nat → Nat) (k : Nat → ClassId) (S Z : Nat → Nat → Nat) (x0 : Int32) (x1 : Int32) (x2 : Int32) (x3 : Int32) (hB : Bd S) : Met l yX3_isDrive wsX3_isDrive ({ frames := 2, cells := 0, slots := 0, locals := 43 } : Room) (va_Pc [.ref (q 0), .int x0, .int x1, .int x2, .int x3] (rB D k (wM q k S Z))) (vp_Si (fun r => r = nI (bN (isD S x0 x1 x2 x3)))) 0 0 (fun _ => False) := by
  refine Met.ofW (cc := cX3_isDrive) (maxL := 5) (ret := (some .boolean)) (by decide) rfl ?_
  intro p e s m args below meth c s₁ B hml hv
  obtain ⟨rfl, hP, hX⟩ := hv
  have hx := B.exec
  have hb := B.bytes
  have hr := B.returns
  have hts := atoms_spec (ws := wsX3_isDrive) B.pre
  have hown : s.vm.findClass RX3 = some m.cls := findClass_of_methodNamed B.named
  have hlocks := B.notSynchronized
  have hf_92 := hts (.fieldLink RX3 92 "FloorGraphModel" "robots" "I") (by decide +kernel)
  have hin_X3 : ∀ w ∈ u_ws RX3 TX3 24, w ∈ wsX3_isDrive := by decide +kernel
  have f0 := hB.1
  have hl := lv_entry ([.ref (q 0), .int x0, .int x1, .int x2, .int x3]) (n := 5) (Nat.le_of_ble_eq_true rfl)
  rw [lg_entry_eq]
  generalize (lg_sl ([.ref (q 0), .int x0, .int x1, .int x2, .int x3]) ++ List.replicate (5 - (lg_sl ([.ref (q 0), .int x0, .int x1, .int x2, .int x3])).length) Slot.unset).toArray = ls at hl ⊢
  have hl : lv_has ls 5 [(0, .ref (q 0)), (1, .int x0), (2, .int x1), (3, .int x2), (4, .int x3)] := hl
  refine lv_iload_n hx hb dX3_isDrive_0 rfl (lv_at hl 1 rfl) ?_
  refine lv_iconst (v := nI 0) hx hb dX3_isDrive_1 (by decide) ?_
  refine lv_aload_n hx hb dX3_isDrive_2 rfl (lv_at hl 0 rfl) ?_
  refine va_get (D := D) (v := .int (nI (S 0 2))) hx hb hts hin_X3 hown hX.1 hP 0 rfl rfl 13 (by decide) hf_92 (fun _ h9 => h9) rfl dX3_isDrive_3 ?_
  refine lv_iconst (v := nI 1) hx hb dX3_isDrive_6 (by decide) ?_
  refine lv_isub hx hb dX3_isDrive_7 ?_
  refine na_as (y := pI (S 0 2)) rfl ?_
  refine rd_S (As := [.int x0, .int (nI 0), .int (pI (S 0 2))]) (rest := []) ⟨hx, hb, hml, hown, hts⟩ (k_X3_in l x0 (nI 0) (pI (S 0 2)) ) (va_cwS 3 hts gX3_isDrive_X3_in rfl rfl rfl (by decide +kernel) ⟨by decide, by decide⟩) rfl hl.1 rfl (Nat.le_of_ble_eq_true rfl) dX3_isDrive_8 ⟨Nat.zero_le _, Nat.zero_le _⟩ ?_
  refine na_if_eq (tgt := 45) hx hb (by have := bN_le (inR (nI 0).toInt (pI (S 0 2)).toInt x0); omega) dX3_isDrive_11 (by decide) (fun h_11 => ?_) (fun h_11 => ?_)
  · skip
    refine lv_iconst (v := nI 0) hx hb dX3_isDrive_45 (by decide) ?_
    exact W.zret (v := nI 0) hx hb hr (nar_b _ (by first | decide | omega | exact bN_le _)) (fun t ht hW => ⟨_, rfl, isD_f (by omega) (by first | exact Or.inl h_11 | exact Or.inr (Or.inl h_19) | exact Or.inr (Or.inr (Or.inl h_27)) | exact Or.inr (Or.inr (Or.inr h_38))), ht⟩) (fun _ h => by cases h) dX3_isDrive_46
  · skip
    refine lv_aload_n hx hb dX3_isDrive_14 rfl (lv_at hl 0 rfl) ?_
    refine lv_iload_n hx hb dX3_isDrive_15 rfl (lv_at hl 2 rfl) ?_
    refine rd_V (As := [.int x1]) (rest := []) ⟨hx, hb, hml, hown, hts⟩ (k_X3_isPiece l D q k S Z x1 (by omega)) (cwV 1 hts gX3_isDrive_X3_isPiece rfl rfl rfl (by decide +kernel) ⟨by decide, by decide⟩) hX hP (q0 := 0) rfl rfl rfl hl.1 rfl (Nat.le_of_ble_eq_true rfl) dX3_isDrive_16 ⟨Nat.zero_le _, Nat.zero_le _⟩ ?_
    refine na_if_eq (tgt := 45) hx hb (by have := bN_le (inR 0 ((S 0 0 : Int) - 1) x1); omega) dX3_isDrive_19 (by decide) (fun h_19 => ?_) (fun h_19 => ?_)
    · skip
      refine lv_iconst (v := nI 0) hx hb dX3_isDrive_45 (by decide) ?_
      exact W.zret (v := nI 0) hx hb hr (nar_b _ (by first | decide | omega | exact bN_le _)) (fun t ht hW => ⟨_, rfl, isD_f (by omega) (by first | exact Or.inl h_11 | exact Or.inr (Or.inl h_19) | exact Or.inr (Or.inr (Or.inl h_27)) | exact Or.inr (Or.inr (Or.inr h_38))), ht⟩) (fun _ h => by cases h) dX3_isDrive_46
    · skip
      refine lv_aload_n hx hb dX3_isDrive_22 rfl (lv_at hl 0 rfl) ?_
      refine lv_iload_n hx hb dX3_isDrive_23 rfl (lv_at hl 3 rfl) ?_
      refine rd_V (As := [.int x2]) (rest := []) ⟨hx, hb, hml, hown, hts⟩ (k_X3_isPiece l D q k S Z x2 (by omega)) (cwV 1 hts gX3_isDrive_X3_isPiece rfl rfl rfl (by decide +kernel) ⟨by decide, by decide⟩) hX hP (q0 := 0) rfl rfl rfl hl.1 rfl (Nat.le_of_ble_eq_true rfl) dX3_isDrive_24 ⟨Nat.zero_le _, Nat.zero_le _⟩ ?_
      refine na_if_eq (tgt := 45) hx hb (by have := bN_le (inR 0 ((S 0 0 : Int) - 1) x2); omega) dX3_isDrive_27 (by decide) (fun h_27 => ?_) (fun h_27 => ?_)
      · skip
        refine lv_iconst (v := nI 0) hx hb dX3_isDrive_45 (by decide) ?_
        exact W.zret (v := nI 0) hx hb hr (nar_b _ (by first | decide | omega | exact bN_le _)) (fun t ht hW => ⟨_, rfl, isD_f (by omega) (by first | exact Or.inl h_11 | exact Or.inr (Or.inl h_19) | exact Or.inr (Or.inr (Or.inl h_27)) | exact Or.inr (Or.inr (Or.inr h_38))), ht⟩) (fun _ h => by cases h) dX3_isDrive_46
      · skip
        refine lv_iload hx hb dX3_isDrive_30 (lv_at hl 4 rfl) ?_
        refine lv_iconst (v := nI 0) hx hb dX3_isDrive_32 (by decide) ?_
        refine lv_bipush (v := nI 23) hx hb dX3_isDrive_33 (by decide) ?_
        refine rd_S (As := [.int x3, .int (nI 0), .int (nI 23)]) (rest := []) ⟨hx, hb, hml, hown, hts⟩ (k_X3_in l x3 (nI 0) (nI 23) ) (va_cwS 3 hts gX3_isDrive_X3_in rfl rfl rfl (by decide +kernel) ⟨by decide, by decide⟩) rfl hl.1 rfl (Nat.le_of_ble_eq_true rfl) dX3_isDrive_35 ⟨Nat.zero_le _, Nat.zero_le _⟩ ?_
        refine na_if_eq (tgt := 45) hx hb (by have := bN_le (inR (nI 0).toInt (nI 23).toInt x3); omega) dX3_isDrive_38 (by decide) (fun h_38 => ?_) (fun h_38 => ?_)
        · skip
          refine lv_iconst (v := nI 0) hx hb dX3_isDrive_45 (by decide) ?_
          exact W.zret (v := nI 0) hx hb hr (nar_b _ (by first | decide | omega | exact bN_le _)) (fun t ht hW => ⟨_, rfl, isD_f (by omega) (by first | exact Or.inl h_11 | exact Or.inr (Or.inl h_19) | exact Or.inr (Or.inr (Or.inl h_27)) | exact Or.inr (Or.inr (Or.inr h_38))), ht⟩) (fun _ h => by cases h) dX3_isDrive_46
        · skip
          refine lv_iconst (v := nI 1) hx hb dX3_isDrive_41 (by decide) ?_
          refine lv_goto (tgt := 46) hx hb dX3_isDrive_42 (by decide) ?_
          exact W.zret (v := nI 1) hx hb hr (nar_b _ (by first | decide | omega | exact bN_le _)) (fun t ht hW => ⟨_, rfl, isD_t (by omega) h_11 h_19 h_27 h_38, ht⟩) (fun _ h => by cases h) dX3_isDrive_46

set_option maxHeartbeats 4000000 in
set_option maxRecDepth 100000 in
theorem k_X3_thrown (l : Launch) (D : va_G) (q : Nat → Nat) (k : Nat → ClassId) (S Z : Nat → Nat → Nat) : Met l yX3_thrown wsX3_thrown ({ frames := 0, cells := 0, slots := 0, locals := 0 } : Room) (va_Pc [.ref (q 0)] (rB D k (wM q k S Z))) (vp_Si (fun r => r = nI (Z 0 0))) 0 0 (fun _ => False) := by
  refine Met.ofW (cc := cX3_thrown) (maxL := 1) (ret := (some .int)) (by decide) rfl ?_
  intro p e s m args below meth c s₁ B hml hv
  obtain ⟨rfl, hP, hX⟩ := hv
  have hx := B.exec
  have hb := B.bytes
  have hr := B.returns
  have hts := atoms_spec (ws := wsX3_thrown) B.pre
  have hown : s.vm.findClass RX3 = some m.cls := findClass_of_methodNamed B.named
  have hlocks := B.notSynchronized
  have hf_59 := hts (.fieldLink RX3 59 "FloorGraphModel" "code" "I") (by decide +kernel)
  have hin_X3 : ∀ w ∈ u_ws RX3 TX3 24, w ∈ wsX3_thrown := by decide +kernel
  have hl := lv_entry ([.ref (q 0)]) (n := 1) (Nat.le_of_ble_eq_true rfl)
  rw [lg_entry_eq]
  generalize (lg_sl ([.ref (q 0)]) ++ List.replicate (1 - (lg_sl ([.ref (q 0)])).length) Slot.unset).toArray = ls at hl ⊢
  have hl : lv_has ls 1 [(0, .ref (q 0))] := hl
  refine lv_aload_n hx hb dX3_thrown_0 rfl (lv_at hl 0 rfl) ?_
  refine va_get (D := D) (v := .int (nI (Z 0 0))) hx hb hts hin_X3 hown hX.1 hP 0 rfl rfl 0 (by decide) hf_59 (fun _ h9 => h9) rfl dX3_thrown_1 ?_
  exact W.iret (v := nI (Z 0 0)) hx hb hr (fun t ht hW => ⟨_, rfl, rfl, ht⟩) (fun _ h => by cases h) dX3_thrown_4

set_option maxHeartbeats 4000000 in
set_option maxRecDepth 100000 in
theorem k_X3_mayEnter (l : Launch) (D : va_G) (q : Nat → Nat) (k : Nat → ClassId) (S Z : Nat → Nat → Nat) (b0 : Nat) (e0 : Nat) (h0 : Nat) (hB : Bd S) (hb0 : b0 < 6) (he : e0 < 40) (hh : h0 < 24) : Met l yX3_mayEnter wsX3_mayEnter ({ frames := 0, cells := 0, slots := 0, locals := 0 } : Room) (va_Pc [.ref (q 0), .int (nI b0), .int (nI e0), .int (nI h0)] (rB D k (wM q k S Z))) (vp_Si (fun r => r = nI (bN (mvE S (S 11 b0) h0 e0)))) 0 0 (fun _ => False) := by
  refine Met.ofW (cc := cX3_mayEnter) (maxL := 5) (ret := (some .boolean)) (by decide) rfl ?_
  intro p e s m args below meth c s₁ B hml hv
  obtain ⟨rfl, hP, hX⟩ := hv
  have hx := B.exec
  have hb := B.bytes
  have hr := B.returns
  have hts := atoms_spec (ws := wsX3_mayEnter) B.pre
  have hown : s.vm.findClass RX3 = some m.cls := findClass_of_methodNamed B.named
  have hlocks := B.notSynchronized
  have hf_16 := hts (.fieldLink RX3 16 "FloorGraphModel" "wide" "[I") (by decide +kernel)
  have hf_19 := hts (.fieldLink RX3 19 "FloorGraphModel" "both" "[Z") (by decide +kernel)
  have hf_23 := hts (.fieldLink RX3 23 "FloorGraphModel" "shut" "[Z") (by decide +kernel)
  have hf_26 := hts (.fieldLink RX3 26 "FloorGraphModel" "zones" "[I") (by decide +kernel)
  have hf_41 := hts (.fieldLink RX3 41 "FloorGraphModel" "robotWide" "[I") (by decide +kernel)
  have hin_X3 : ∀ w ∈ u_ws RX3 TX3 24, w ∈ wsX3_mayEnter := by decide +kernel
  have f4 := hB.2.1 (e0 / 2)
  have f11 := hB.2.2.2.2 b0
  have hl := lv_entry ([.ref (q 0), .int (nI b0), .int (nI e0), .int (nI h0)]) (n := 5) (Nat.le_of_ble_eq_true rfl)
  rw [lg_entry_eq]
  generalize (lg_sl ([.ref (q 0), .int (nI b0), .int (nI e0), .int (nI h0)]) ++ List.replicate (5 - (lg_sl ([.ref (q 0), .int (nI b0), .int (nI e0), .int (nI h0)])).length) Slot.unset).toArray = ls at hl ⊢
  have hl : lv_has ls 5 [(0, .ref (q 0)), (1, .int (nI b0)), (2, .int (nI e0)), (3, .int (nI h0))] := hl
  refine lv_iload_n hx hb dX3_mayEnter_0 rfl (lv_at hl 2 rfl) ?_
  refine lv_iconst (v := nI 2) hx hb dX3_mayEnter_1 (by decide) ?_
  refine na_idiv2 hx hb (by omega) dX3_mayEnter_2 ?_
  refine lv_istore (lv' := [(4, .int (nI (e0 / 2))), (0, .ref (q 0)), (1, .int (nI b0)), (2, .int (nI e0)), (3, .int (nI h0))]) hx hb dX3_mayEnter_3 hl (by decide) rfl (fun ls hl => ?_)
  refine lv_aload_n hx hb dX3_mayEnter_5 rfl (lv_at hl 1 rfl) ?_
  refine va_get (D := D) (v := .ref (q 5)) hx hb hts hin_X3 hown hX.1 hP 0 rfl rfl 6 (by decide) hf_23 (fun _ h9 => h9) rfl dX3_mayEnter_6 ?_
  refine lv_iload hx hb dX3_mayEnter_9 (lv_at hl 0 rfl) ?_
  refine na_zald hx hb hX.1 hP 5 1 rfl rfl (by omega) (by decide) dX3_mayEnter_11 ?_
  refine na_if_ne (tgt := 65) hx hb (by omega) dX3_mayEnter_12 (by decide) (fun h_12 => ?_) (fun h_12 => ?_)
  · skip
    refine lv_iconst (v := nI 0) hx hb dX3_mayEnter_65 (by decide) ?_
    exact W.zret (v := nI 0) hx hb hr (nar_b _ (by first | decide | omega | exact bN_le _)) (fun t ht hW => ⟨_, rfl, bN0 (by first | (simp [mvE]; done) | (simp [mvE]; omega)), ht⟩) (fun _ h => by cases h) dX3_mayEnter_66
  · skip
    refine lv_aload_n hx hb dX3_mayEnter_15 rfl (lv_at hl 1 rfl) ?_
    refine va_get (D := D) (v := .ref (q 6)) hx hb hts hin_X3 hown hX.1 hP 0 rfl rfl 7 (by decide) hf_26 (fun _ h9 => h9) rfl dX3_mayEnter_16 ?_
    refine lv_iload hx hb dX3_mayEnter_19 (lv_at hl 0 rfl) ?_
    refine na_iald hx hb hX.1 hP 6 0 rfl rfl (by omega) (by decide) dX3_mayEnter_21 ?_
    refine lv_iload_n hx hb dX3_mayEnter_22 rfl (lv_at hl 4 rfl) ?_
    refine na_ishr hx hb (by omega) (by omega) dX3_mayEnter_23 ?_
    refine lv_iconst (v := nI 1) hx hb dX3_mayEnter_24 (by decide) ?_
    have f5 : S 6 (e0 / 2) / 2 ^ h0 ≤ S 6 (e0 / 2) := Nat.div_le_self _ _
    refine na_iand1 hx hb (by omega) dX3_mayEnter_25 ?_
    have f6 : S 6 (e0 / 2) / 2 ^ h0 % 2 < 2 := Nat.mod_lt _ (by decide)
    refine na_if_ne (tgt := 65) hx hb (by omega) dX3_mayEnter_26 (by decide) (fun h_26 => ?_) (fun h_26 => ?_)
    · skip
      refine lv_iconst (v := nI 0) hx hb dX3_mayEnter_65 (by decide) ?_
      exact W.zret (v := nI 0) hx hb hr (nar_b _ (by first | decide | omega | exact bN_le _)) (fun t ht hW => ⟨_, rfl, bN0 (by first | (simp [mvE]; done) | (simp [mvE]; omega)), ht⟩) (fun _ h => by cases h) dX3_mayEnter_66
    · skip
      refine lv_aload_n hx hb dX3_mayEnter_29 rfl (lv_at hl 1 rfl) ?_
      refine va_get (D := D) (v := .ref (q 3)) hx hb hts hin_X3 hown hX.1 hP 0 rfl rfl 4 (by decide) hf_16 (fun _ h9 => h9) rfl dX3_mayEnter_30 ?_
      refine lv_iload hx hb dX3_mayEnter_33 (lv_at hl 0 rfl) ?_
      refine na_iald hx hb hX.1 hP 3 0 rfl rfl (by omega) (by decide) dX3_mayEnter_35 ?_
      refine lv_aload_n hx hb dX3_mayEnter_36 rfl (lv_at hl 1 rfl) ?_
      refine va_get (D := D) (v := .ref (q 11)) hx hb hts hin_X3 hown hX.1 hP 0 rfl rfl 14 (by decide) hf_41 (fun _ h9 => h9) rfl dX3_mayEnter_37 ?_
      refine lv_iload_n hx hb dX3_mayEnter_40 rfl (lv_at hl 2 rfl) ?_
      refine na_iald hx hb hX.1 hP 11 0 rfl rfl (by omega) (by decide) dX3_mayEnter_41 ?_
      refine na_icmp_lt (tgt := 65) hx hb (by omega) (by omega) dX3_mayEnter_42 (by decide) (fun h_42 => ?_) (fun h_42 => ?_)
      · skip
        refine lv_iconst (v := nI 0) hx hb dX3_mayEnter_65 (by decide) ?_
        exact W.zret (v := nI 0) hx hb hr (nar_b _ (by first | decide | omega | exact bN_le _)) (fun t ht hW => ⟨_, rfl, bN0 (by first | (simp [mvE]; done) | (simp [mvE]; omega)), ht⟩) (fun _ h => by cases h) dX3_mayEnter_66
      · skip
        refine lv_iload_n hx hb dX3_mayEnter_45 rfl (lv_at hl 3 rfl) ?_
        refine lv_iconst (v := nI 2) hx hb dX3_mayEnter_46 (by decide) ?_
        refine na_irem2 hx hb (by omega) dX3_mayEnter_47 ?_
        refine na_if_eq (tgt := 61) hx hb (by omega) dX3_mayEnter_48 (by decide) (fun h_48 => ?_) (fun h_48 => ?_)
        · skip
          refine lv_iconst (v := nI 1) hx hb dX3_mayEnter_61 (by decide) ?_
          refine lv_goto (tgt := 66) hx hb dX3_mayEnter_62 (by decide) ?_
          exact W.zret (v := nI 1) hx hb hr (nar_b _ (by first | decide | omega | exact bN_le _)) (fun t ht hW => ⟨_, rfl, bN1 (by first | (simp [mvE]; done) | (simp [mvE]; omega)), ht⟩) (fun _ h => by cases h) dX3_mayEnter_66
        · skip
          refine lv_aload_n hx hb dX3_mayEnter_51 rfl (lv_at hl 1 rfl) ?_
          refine va_get (D := D) (v := .ref (q 4)) hx hb hts hin_X3 hown hX.1 hP 0 rfl rfl 5 (by decide) hf_19 (fun _ h9 => h9) rfl dX3_mayEnter_52 ?_
          refine lv_iload hx hb dX3_mayEnter_55 (lv_at hl 0 rfl) ?_
          refine na_zald hx hb hX.1 hP 4 1 rfl rfl (by omega) (by decide) dX3_mayEnter_57 ?_
          refine na_if_eq (tgt := 65) hx hb (by omega) dX3_mayEnter_58 (by decide) (fun h_58 => ?_) (fun h_58 => ?_)
          · skip
            refine lv_iconst (v := nI 0) hx hb dX3_mayEnter_65 (by decide) ?_
            exact W.zret (v := nI 0) hx hb hr (nar_b _ (by first | decide | omega | exact bN_le _)) (fun t ht hW => ⟨_, rfl, bN0 (by first | (simp [mvE]; done) | (simp [mvE]; omega)), ht⟩) (fun _ h => by cases h) dX3_mayEnter_66
          · skip
            refine lv_iconst (v := nI 1) hx hb dX3_mayEnter_61 (by decide) ?_
            refine lv_goto (tgt := 66) hx hb dX3_mayEnter_62 (by decide) ?_
            exact W.zret (v := nI 1) hx hb hr (nar_b _ (by first | decide | omega | exact bN_le _)) (fun t ht hW => ⟨_, rfl, bN1 (by first | (simp [mvE]; done) | (simp [mvE]; omega)), ht⟩) (fun _ h => by cases h) dX3_mayEnter_66

set_option maxHeartbeats 4000000 in
set_option maxRecDepth 100000 in
theorem k_X3_from (l : Launch) (D : va_G) (q : Nat → Nat) (k : Nat → ClassId) (S Z : Nat → Nat → Nat) (j0 : Nat) (d0 : Nat) (hJ : Jn S) (hj : j0 < 40) (hd : d0 < 2) : Met l yX3_from wsX3_from ({ frames := 0, cells := 0, slots := 0, locals := 0 } : Room) (va_Pc [.ref (q 0), .int (nI j0), .int (nI d0)] (rB D k (wM q k S Z))) (vp_Si (fun r => r = nI (S 7 (2 * j0 + d0)))) 0 0 (fun _ => False) := by
  refine Met.ofW (cc := cX3_from) (maxL := 3) (ret := (some .int)) (by decide) rfl ?_
  intro p e s m args below meth c s₁ B hml hv
  obtain ⟨rfl, hP, hX⟩ := hv
  have hx := B.exec
  have hb := B.bytes
  have hr := B.returns
  have hts := atoms_spec (ws := wsX3_from) B.pre
  have hown : s.vm.findClass RX3 = some m.cls := findClass_of_methodNamed B.named
  have hlocks := B.notSynchronized
  have hf_29 := hts (.fieldLink RX3 29 "FloorGraphModel" "one" "[I") (by decide +kernel)
  have hf_32 := hts (.fieldLink RX3 32 "FloorGraphModel" "two" "[I") (by decide +kernel)
  have hin_X3 : ∀ w ∈ u_ws RX3 TX3 24, w ∈ wsX3_from := by decide +kernel
  have f7 := hJ.2 j0
  have hl := lv_entry ([.ref (q 0), .int (nI j0), .int (nI d0)]) (n := 3) (Nat.le_of_ble_eq_true rfl)
  rw [lg_entry_eq]
  generalize (lg_sl ([.ref (q 0), .int (nI j0), .int (nI d0)]) ++ List.replicate (3 - (lg_sl ([.ref (q 0), .int (nI j0), .int (nI d0)])).length) Slot.unset).toArray = ls at hl ⊢
  have hl : lv_has ls 3 [(0, .ref (q 0)), (1, .int (nI j0)), (2, .int (nI d0))] := hl
  refine lv_iload_n hx hb dX3_from_0 rfl (lv_at hl 2 rfl) ?_
  refine na_if_ne (tgt := 13) hx hb (by omega) dX3_from_1 (by decide) (fun h_1 => ?_) (fun h_1 => ?_)
  · skip
    refine lv_aload_n hx hb dX3_from_13 rfl (lv_at hl 0 rfl) ?_
    refine va_get (D := D) (v := .ref (q 8)) hx hb hts hin_X3 hown hX.1 hP 0 rfl rfl 10 (by decide) hf_32 (fun _ h9 => h9) rfl dX3_from_14 ?_
    refine lv_iload_n hx hb dX3_from_17 rfl (lv_at hl 1 rfl) ?_
    refine na_iald hx hb hX.1 hP 8 0 rfl rfl (by omega) (by decide) dX3_from_18 ?_
    exact W.iret (v := nI (S 8 (2 * j0))) hx hb hr (fun t ht hW => ⟨_, rfl, congrArg nI (by first | (rw [h_1]; rfl) | (rw [show d0 = 1 by omega]; omega)), ht⟩) (fun _ h => by cases h) dX3_from_19
  · skip
    refine lv_aload_n hx hb dX3_from_4 rfl (lv_at hl 0 rfl) ?_
    refine va_get (D := D) (v := .ref (q 7)) hx hb hts hin_X3 hown hX.1 hP 0 rfl rfl 9 (by decide) hf_29 (fun _ h9 => h9) rfl dX3_from_5 ?_
    refine lv_iload_n hx hb dX3_from_8 rfl (lv_at hl 1 rfl) ?_
    refine na_iald hx hb hX.1 hP 7 0 rfl rfl (by omega) (by decide) dX3_from_9 ?_
    refine lv_goto (tgt := 19) hx hb dX3_from_10 (by decide) ?_
    exact W.iret (v := nI (S 7 (2 * j0))) hx hb hr (fun t ht hW => ⟨_, rfl, congrArg nI (by first | (rw [h_1]; rfl) | (rw [show d0 = 1 by omega]; omega)), ht⟩) (fun _ h => by cases h) dX3_from_19

set_option maxHeartbeats 4000000 in
set_option maxRecDepth 100000 in
theorem k_X3_to (l : Launch) (D : va_G) (q : Nat → Nat) (k : Nat → ClassId) (S Z : Nat → Nat → Nat) (j0 : Nat) (d0 : Nat) (hJ : Jn S) (hj : j0 < 40) (hd : d0 < 2) : Met l yX3_to wsX3_to ({ frames := 0, cells := 0, slots := 0, locals := 0 } : Room) (va_Pc [.ref (q 0), .int (nI j0), .int (nI d0)] (rB D k (wM q k S Z))) (vp_Si (fun r => r = nI (S 8 (2 * j0 + d0)))) 0 0 (fun _ => False) := by
  refine Met.ofW (cc := cX3_to) (maxL := 3) (ret := (some .int)) (by decide) rfl ?_
  intro p e s m args below meth c s₁ B hml hv
  obtain ⟨rfl, hP, hX⟩ := hv
  have hx := B.exec
  have hb := B.bytes
  have hr := B.returns
  have hts := atoms_spec (ws := wsX3_to) B.pre
  have hown : s.vm.findClass RX3 = some m.cls := findClass_of_methodNamed B.named
  have hlocks := B.notSynchronized
  have hf_29 := hts (.fieldLink RX3 29 "FloorGraphModel" "one" "[I") (by decide +kernel)
  have hf_32 := hts (.fieldLink RX3 32 "FloorGraphModel" "two" "[I") (by decide +kernel)
  have hin_X3 : ∀ w ∈ u_ws RX3 TX3 24, w ∈ wsX3_to := by decide +kernel
  have f7 := hJ.2 j0
  have hl := lv_entry ([.ref (q 0), .int (nI j0), .int (nI d0)]) (n := 3) (Nat.le_of_ble_eq_true rfl)
  rw [lg_entry_eq]
  generalize (lg_sl ([.ref (q 0), .int (nI j0), .int (nI d0)]) ++ List.replicate (3 - (lg_sl ([.ref (q 0), .int (nI j0), .int (nI d0)])).length) Slot.unset).toArray = ls at hl ⊢
  have hl : lv_has ls 3 [(0, .ref (q 0)), (1, .int (nI j0)), (2, .int (nI d0))] := hl
  refine lv_iload_n hx hb dX3_to_0 rfl (lv_at hl 2 rfl) ?_
  refine na_if_ne (tgt := 13) hx hb (by omega) dX3_to_1 (by decide) (fun h_1 => ?_) (fun h_1 => ?_)
  · skip
    refine lv_aload_n hx hb dX3_to_13 rfl (lv_at hl 0 rfl) ?_
    refine va_get (D := D) (v := .ref (q 7)) hx hb hts hin_X3 hown hX.1 hP 0 rfl rfl 9 (by decide) hf_29 (fun _ h9 => h9) rfl dX3_to_14 ?_
    refine lv_iload_n hx hb dX3_to_17 rfl (lv_at hl 1 rfl) ?_
    refine na_iald hx hb hX.1 hP 7 0 rfl rfl (by omega) (by decide) dX3_to_18 ?_
    exact W.iret (v := nI (S 7 (2 * j0))) hx hb hr (fun t ht hW => ⟨_, rfl, congrArg nI (by first | (rw [h_1]; rfl) | (rw [show d0 = 1 by omega]; omega)), ht⟩) (fun _ h => by cases h) dX3_to_19
  · skip
    refine lv_aload_n hx hb dX3_to_4 rfl (lv_at hl 0 rfl) ?_
    refine va_get (D := D) (v := .ref (q 8)) hx hb hts hin_X3 hown hX.1 hP 0 rfl rfl 10 (by decide) hf_32 (fun _ h9 => h9) rfl dX3_to_5 ?_
    refine lv_iload_n hx hb dX3_to_8 rfl (lv_at hl 1 rfl) ?_
    refine na_iald hx hb hX.1 hP 8 0 rfl rfl (by omega) (by decide) dX3_to_9 ?_
    refine lv_goto (tgt := 19) hx hb dX3_to_10 (by decide) ?_
    exact W.iret (v := nI (S 8 (2 * j0))) hx hb hr (fun t ht hW => ⟨_, rfl, congrArg nI (by first | (rw [h_1]; rfl) | (rw [show d0 = 1 by omega]; omega)), ht⟩) (fun _ h => by cases h) dX3_to_19

set_option maxHeartbeats 4000000 in
set_option maxRecDepth 100000 in
theorem k_X3_mayGo (l : Launch) (D : va_G) (q : Nat → Nat) (k : Nat → ClassId) (S Z : Nat → Nat → Nat) (b0 : Nat) (j0 : Nat) (d0 : Nat) (h0 : Nat) (hB : Bd S) (hJ : Jn S) (hb0 : b0 < 6) (hj : 2 * j0 + d0 < S 0 1) (hd : d0 < 2) (hh : h0 < 24) : Met l yX3_mayGo wsX3_mayGo ({ frames := 1, cells := 0, slots := 0, locals := 24 } : Room) (va_Pc [.ref (q 0), .int (nI b0), .int (nI j0), .int (nI d0), .int (nI h0)] (rB D k (wM q k S Z))) (vp_Si (fun r => r = nI (bN (opn S (S 11 b0) h0 (2 * j0 + d0))))) 0 0 (fun _ => False) := by
  refine Met.ofW (cc := cX3_mayGo) (maxL := 5) (ret := (some .boolean)) (by decide) rfl ?_
  intro p e s m args below meth c s₁ B hml hv
  obtain ⟨rfl, hP, hX⟩ := hv
  have hx := B.exec
  have hb := B.bytes
  have hr := B.returns
  have hts := atoms_spec (ws := wsX3_mayGo) B.pre
  have hown : s.vm.findClass RX3 = some m.cls := findClass_of_methodNamed B.named
  have hlocks := B.notSynchronized
  have hf_38 := hts (.fieldLink RX3 38 "FloorGraphModel" "bars" "[I") (by decide +kernel)
  have hin_X3 : ∀ w ∈ u_ws RX3 TX3 24, w ∈ wsX3_mayGo := by decide +kernel
  have f0 := hB.1
  have g0 := (hB.2.2.1 (2 * j0)).2
  have g1 := (hB.2.2.1 (2 * j0 + 1)).2
  have f8 := hB.2.2.2.1 (2 * j0 + d0) hj
  have fb := bars_bit (d := d0) g0 g1 hd
  have fd : 2 ^ d0 ≥ 1 := Nat.one_le_two_pow
  have fe : (S 10 (2 * j0) + 2 * S 10 (2 * j0 + 1)) / 2 ^ d0 ≤ S 10 (2 * j0) + 2 * S 10 (2 * j0 + 1) := Nat.div_le_self _ _
  have fg : S 10 (2 * j0 + d0) = if d0 = 0 then S 10 (2 * j0) else S 10 (2 * j0 + 1) := by rcases (show d0 = 0 ∨ d0 = 1 by omega) with rfl | rfl <;> rfl
  rw [← fg] at fb
  have hl := lv_entry ([.ref (q 0), .int (nI b0), .int (nI j0), .int (nI d0), .int (nI h0)]) (n := 5) (Nat.le_of_ble_eq_true rfl)
  rw [lg_entry_eq]
  generalize (lg_sl ([.ref (q 0), .int (nI b0), .int (nI j0), .int (nI d0), .int (nI h0)]) ++ List.replicate (5 - (lg_sl ([.ref (q 0), .int (nI b0), .int (nI j0), .int (nI d0), .int (nI h0)])).length) Slot.unset).toArray = ls at hl ⊢
  have hl : lv_has ls 5 [(0, .ref (q 0)), (1, .int (nI b0)), (2, .int (nI j0)), (3, .int (nI d0)), (4, .int (nI h0))] := hl
  refine lv_aload_n hx hb dX3_mayGo_0 rfl (lv_at hl 0 rfl) ?_
  refine va_get (D := D) (v := .ref (q 10)) hx hb hts hin_X3 hown hX.1 hP 0 rfl rfl 12 (by decide) hf_38 (fun _ h9 => h9) rfl dX3_mayGo_1 ?_
  refine lv_iload_n hx hb dX3_mayGo_4 rfl (lv_at hl 2 rfl) ?_
  refine na_iald hx hb hX.1 hP 10 0 rfl rfl (by omega) (by decide) dX3_mayGo_5 ?_
  refine lv_iload_n hx hb dX3_mayGo_6 rfl (lv_at hl 3 rfl) ?_
  refine na_ishr hx hb (by omega) (by omega) dX3_mayGo_7 ?_
  refine lv_iconst (v := nI 1) hx hb dX3_mayGo_8 (by decide) ?_
  refine na_iand1 hx hb (by omega) dX3_mayGo_9 ?_
  refine na_if_ne (tgt := 33) hx hb (by have := (hB.2.2.1 (2 * j0 + d0)).2; omega) dX3_mayGo_10 (by decide) (fun h_10 => ?_) (fun h_10 => ?_)
  · skip
    refine lv_iconst (v := nI 0) hx hb dX3_mayGo_33 (by decide) ?_
    exact W.zret (v := nI 0) hx hb hr (nar_b _ (by first | decide | omega | exact bN_le _)) (fun t ht hW => ⟨_, rfl, bN0 (by first | (rw [opn_def, bN_zero h_26]; simp; done) | (rw [opn_def]; simp; omega)), ht⟩) (fun _ h => by cases h) dX3_mayGo_34
  · skip
    refine lv_aload_n hx hb dX3_mayGo_13 rfl (lv_at hl 0 rfl) ?_
    refine lv_iload_n hx hb dX3_mayGo_14 rfl (lv_at hl 1 rfl) ?_
    refine lv_aload_n hx hb dX3_mayGo_15 rfl (lv_at hl 0 rfl) ?_
    refine lv_iload_n hx hb dX3_mayGo_16 rfl (lv_at hl 2 rfl) ?_
    refine lv_iload_n hx hb dX3_mayGo_17 rfl (lv_at hl 3 rfl) ?_
    refine rd_V (As := [.int (nI j0), .int (nI d0)]) (rest := [.int (nI b0), .ref (q 0)]) ⟨hx, hb, hml, hown, hts⟩ (k_X3_to l D q k S Z j0 d0 hJ (by omega) hd) (cwV 2 hts gX3_mayGo_X3_to rfl rfl rfl (by decide +kernel) ⟨by decide, by decide⟩) hX hP (q0 := 0) rfl rfl rfl hl.1 rfl (Nat.le_of_ble_eq_true rfl) dX3_mayGo_18 ⟨Nat.zero_le _, Nat.zero_le _⟩ ?_
    refine lv_iload hx hb dX3_mayGo_21 (lv_at hl 4 rfl) ?_
    refine rd_V (As := [.int (nI b0), .int (nI (S 8 (2 * j0 + d0))), .int (nI h0)]) (rest := []) ⟨hx, hb, hml, hown, hts⟩ (k_X3_mayEnter l D q k S Z b0 (S 8 (2 * j0 + d0)) h0 hB hb0 (by omega) hh) (cwV 3 hts gX3_mayGo_X3_mayEnter rfl rfl rfl (by decide +kernel) ⟨by decide, by decide⟩) hX hP (q0 := 0) rfl rfl rfl hl.1 rfl (Nat.le_of_ble_eq_true rfl) dX3_mayGo_23 ⟨Nat.zero_le _, Nat.zero_le _⟩ ?_
    refine na_if_eq (tgt := 33) hx hb (by have := bN_le (mvE S (S 11 b0) h0 (S 8 (2 * j0 + d0))); omega) dX3_mayGo_26 (by decide) (fun h_26 => ?_) (fun h_26 => ?_)
    · skip
      refine lv_iconst (v := nI 0) hx hb dX3_mayGo_33 (by decide) ?_
      exact W.zret (v := nI 0) hx hb hr (nar_b _ (by first | decide | omega | exact bN_le _)) (fun t ht hW => ⟨_, rfl, bN0 (by first | (rw [opn_def, bN_zero h_26]; simp; done) | (rw [opn_def]; simp; omega)), ht⟩) (fun _ h => by cases h) dX3_mayGo_34
    · skip
      refine lv_iconst (v := nI 1) hx hb dX3_mayGo_29 (by decide) ?_
      refine lv_goto (tgt := 34) hx hb dX3_mayGo_30 (by decide) ?_
      exact W.zret (v := nI 1) hx hb hr (nar_b _ (by first | decide | omega | exact bN_le _)) (fun t ht hW => ⟨_, rfl, bN1 (by rw [opn_def, bN_pos h_26]; simp; omega), ht⟩) (fun _ h => by cases h) dX3_mayGo_34
