set_option maxHeartbeats 4000000 in
set_option maxRecDepth 100000 in
theorem k_X1_mayLeave (l : Launch) (D : va_G) (q : Nat → Nat) (k : Nat → ClassId) (r : Nat → Nat) (S Z : Nat → Nat → Nat) (e0 : Nat) (hB : Bd S) (he : e0 < 40) : Met l yX1_mayLeave wsX1_mayLeave ({ frames := 0, cells := 0, slots := 0, locals := 0 } : Room) (va_Pc [.ref (q 1), .int (nI e0)] (rB D k (wC q k r S Z))) (vp_Si (fun r => r = nI (bN (mvL S e0)))) 0 0 (fun _ => False) := by
  refine Met.ofW (cc := cX1_mayLeave) (maxL := 2) (ret := (some .boolean)) (by decide) rfl ?_
  intro p e s m args below meth c s₁ B hml hv
  obtain ⟨rfl, hP, hX⟩ := hv
  have hx := B.exec
  have hb := B.bytes
  have hr := B.returns
  have hts := atoms_spec (ws := wsX1_mayLeave) B.pre
  have hown : s.vm.findClass RX1 = some m.cls := findClass_of_methodNamed B.named
  have hlocks := B.notSynchronized
  have hf_21 := hts (.fieldLink RX1 21 "FloorGraph$Floor" "twoWay" "[Z") (by decide +kernel)
  have hin_X1 : ∀ w ∈ u_ws RX1 TX1 14, w ∈ wsX1_mayLeave := by decide +kernel
  have f4 := hB.2.1 (e0 / 2)
  have hl := lv_entry ([.ref (q 1), .int (nI e0)]) (n := 2) (Nat.le_of_ble_eq_true rfl)
  rw [lg_entry_eq]
  generalize (lg_sl ([.ref (q 1), .int (nI e0)]) ++ List.replicate (2 - (lg_sl ([.ref (q 1), .int (nI e0)])).length) Slot.unset).toArray = ls at hl ⊢
  have hl : lv_has ls 2 [(0, .ref (q 1)), (1, .int (nI e0))] := hl
  refine lv_iload_n hx hb dX1_mayLeave_0 rfl (lv_at hl 1 rfl) ?_
  refine lv_iconst (v := nI 2) hx hb dX1_mayLeave_1 (by decide) ?_
  refine na_irem2 hx hb (by omega) dX1_mayLeave_2 ?_
  refine lv_iconst (v := nI 1) hx hb dX1_mayLeave_3 (by decide) ?_
  refine na_icmp_eq (tgt := 18) hx hb (by omega) (by omega) dX1_mayLeave_4 (by decide) (fun h_4 => ?_) (fun h_4 => ?_)
  · skip
    refine lv_iconst (v := nI 1) hx hb dX1_mayLeave_18 (by decide) ?_
    refine lv_goto (tgt := 23) hx hb dX1_mayLeave_19 (by decide) ?_
    exact W.zret (v := nI 1) hx hb hr (nar_b _ (by first | decide | omega | exact bN_le _)) (fun t ht hW => ⟨_, rfl, bN1 (by first | (simp [mvL]; done) | (simp [mvL]; omega)), ht⟩) (fun _ h => by cases h) dX1_mayLeave_23
  · skip
    refine lv_aload_n hx hb dX1_mayLeave_7 rfl (lv_at hl 0 rfl) ?_
    refine va_get (D := D) (v := .ref (q 6)) hx hb hts hin_X1 hown hX.1 hP 1 rfl rfl 4 (by decide) hf_21 (fun _ h9 => h9) rfl dX1_mayLeave_8 ?_
    refine lv_iload_n hx hb dX1_mayLeave_11 rfl (lv_at hl 1 rfl) ?_
    refine lv_iconst (v := nI 2) hx hb dX1_mayLeave_12 (by decide) ?_
    refine na_idiv2 hx hb (by omega) dX1_mayLeave_13 ?_
    refine na_zald hx hb hX.1 hP 6 1 rfl rfl (by omega) (by decide) dX1_mayLeave_14 ?_
    refine na_if_eq (tgt := 22) hx hb (by omega) dX1_mayLeave_15 (by decide) (fun h_15 => ?_) (fun h_15 => ?_)
    · skip
      refine lv_iconst (v := nI 0) hx hb dX1_mayLeave_22 (by decide) ?_
      exact W.zret (v := nI 0) hx hb hr (nar_b _ (by first | decide | omega | exact bN_le _)) (fun t ht hW => ⟨_, rfl, bN0 (by first | (simp [mvL]; done) | (simp [mvL]; omega)), ht⟩) (fun _ h => by cases h) dX1_mayLeave_23
    · skip
      refine lv_iconst (v := nI 1) hx hb dX1_mayLeave_18 (by decide) ?_
      refine lv_goto (tgt := 23) hx hb dX1_mayLeave_19 (by decide) ?_
      exact W.zret (v := nI 1) hx hb hr (nar_b _ (by first | decide | omega | exact bN_le _)) (fun t ht hW => ⟨_, rfl, bN1 (by first | (simp [mvL]; done) | (simp [mvL]; omega)), ht⟩) (fun _ h => by cases h) dX1_mayLeave_23

set_option maxHeartbeats 4000000 in
set_option maxRecDepth 100000 in
theorem k_X1_mayEnter (l : Launch) (D : va_G) (q : Nat → Nat) (k : Nat → ClassId) (r : Nat → Nat) (S Z : Nat → Nat → Nat) (e0 : Nat) (w0 : Nat) (h0 : Nat) (hB : Bd S) (he : e0 < 40) (hw : w0 ≤ 500) (hh : h0 < 24) : Met l yX1_mayEnter wsX1_mayEnter ({ frames := 0, cells := 0, slots := 0, locals := 0 } : Room) (va_Pc [.ref (q 1), .int (nI e0), .int (nI w0), .int (nI h0)] (rB D k (wC q k r S Z))) (vp_Si (fun r => r = nI (bN (mvE S w0 h0 e0)))) 0 0 (fun _ => False) := by
  refine Met.ofW (cc := cX1_mayEnter) (maxL := 5) (ret := (some .boolean)) (by decide) rfl ?_
  intro p e s m args below meth c s₁ B hml hv
  obtain ⟨rfl, hP, hX⟩ := hv
  have hx := B.exec
  have hb := B.bytes
  have hr := B.returns
  have hts := atoms_spec (ws := wsX1_mayEnter) B.pre
  have hown : s.vm.findClass RX1 = some m.cls := findClass_of_methodNamed B.named
  have hlocks := B.notSynchronized
  have hf_18 := hts (.fieldLink RX1 18 "FloorGraph$Floor" "widths" "[I") (by decide +kernel)
  have hf_21 := hts (.fieldLink RX1 21 "FloorGraph$Floor" "twoWay" "[Z") (by decide +kernel)
  have hf_25 := hts (.fieldLink RX1 25 "FloorGraph$Floor" "shut" "[Z") (by decide +kernel)
  have hf_28 := hts (.fieldLink RX1 28 "FloorGraph$Floor" "barredHours" "[I") (by decide +kernel)
  have hin_X1 : ∀ w ∈ u_ws RX1 TX1 14, w ∈ wsX1_mayEnter := by decide +kernel
  have f4 := hB.2.1 (e0 / 2)
  have hl := lv_entry ([.ref (q 1), .int (nI e0), .int (nI w0), .int (nI h0)]) (n := 5) (Nat.le_of_ble_eq_true rfl)
  rw [lg_entry_eq]
  generalize (lg_sl ([.ref (q 1), .int (nI e0), .int (nI w0), .int (nI h0)]) ++ List.replicate (5 - (lg_sl ([.ref (q 1), .int (nI e0), .int (nI w0), .int (nI h0)])).length) Slot.unset).toArray = ls at hl ⊢
  have hl : lv_has ls 5 [(0, .ref (q 1)), (1, .int (nI e0)), (2, .int (nI w0)), (3, .int (nI h0))] := hl
  refine lv_iload_n hx hb dX1_mayEnter_0 rfl (lv_at hl 1 rfl) ?_
  refine lv_iconst (v := nI 2) hx hb dX1_mayEnter_1 (by decide) ?_
  refine na_idiv2 hx hb (by omega) dX1_mayEnter_2 ?_
  refine lv_istore (lv' := [(4, .int (nI (e0 / 2))), (0, .ref (q 1)), (1, .int (nI e0)), (2, .int (nI w0)), (3, .int (nI h0))]) hx hb dX1_mayEnter_3 hl (by decide) rfl (fun ls hl => ?_)
  refine lv_aload_n hx hb dX1_mayEnter_5 rfl (lv_at hl 1 rfl) ?_
  refine va_get (D := D) (v := .ref (q 7)) hx hb hts hin_X1 hown hX.1 hP 1 rfl rfl 5 (by decide) hf_25 (fun _ h9 => h9) rfl dX1_mayEnter_6 ?_
  refine lv_iload hx hb dX1_mayEnter_9 (lv_at hl 0 rfl) ?_
  refine na_zald hx hb hX.1 hP 7 1 rfl rfl (by omega) (by decide) dX1_mayEnter_11 ?_
  refine na_if_ne (tgt := 60) hx hb (by omega) dX1_mayEnter_12 (by decide) (fun h_12 => ?_) (fun h_12 => ?_)
  · skip
    refine lv_iconst (v := nI 0) hx hb dX1_mayEnter_60 (by decide) ?_
    exact W.zret (v := nI 0) hx hb hr (nar_b _ (by first | decide | omega | exact bN_le _)) (fun t ht hW => ⟨_, rfl, bN0 (by first | (simp [mvE]; done) | (simp [mvE]; omega)), ht⟩) (fun _ h => by cases h) dX1_mayEnter_61
  · skip
    refine lv_aload_n hx hb dX1_mayEnter_15 rfl (lv_at hl 1 rfl) ?_
    refine va_get (D := D) (v := .ref (q 8)) hx hb hts hin_X1 hown hX.1 hP 1 rfl rfl 6 (by decide) hf_28 (fun _ h9 => h9) rfl dX1_mayEnter_16 ?_
    refine lv_iload hx hb dX1_mayEnter_19 (lv_at hl 0 rfl) ?_
    refine na_iald hx hb hX.1 hP 8 0 rfl rfl (by omega) (by decide) dX1_mayEnter_21 ?_
    refine lv_iload_n hx hb dX1_mayEnter_22 rfl (lv_at hl 4 rfl) ?_
    refine na_ishr hx hb (by omega) (by omega) dX1_mayEnter_23 ?_
    refine lv_iconst (v := nI 1) hx hb dX1_mayEnter_24 (by decide) ?_
    have f5 : S 6 (e0 / 2) / 2 ^ h0 ≤ S 6 (e0 / 2) := Nat.div_le_self _ _
    refine na_iand1 hx hb (by omega) dX1_mayEnter_25 ?_
    have f6 : S 6 (e0 / 2) / 2 ^ h0 % 2 < 2 := Nat.mod_lt _ (by decide)
    refine na_if_ne (tgt := 60) hx hb (by omega) dX1_mayEnter_26 (by decide) (fun h_26 => ?_) (fun h_26 => ?_)
    · skip
      refine lv_iconst (v := nI 0) hx hb dX1_mayEnter_60 (by decide) ?_
      exact W.zret (v := nI 0) hx hb hr (nar_b _ (by first | decide | omega | exact bN_le _)) (fun t ht hW => ⟨_, rfl, bN0 (by first | (simp [mvE]; done) | (simp [mvE]; omega)), ht⟩) (fun _ h => by cases h) dX1_mayEnter_61
    · skip
      refine lv_aload_n hx hb dX1_mayEnter_29 rfl (lv_at hl 1 rfl) ?_
      refine va_get (D := D) (v := .ref (q 5)) hx hb hts hin_X1 hown hX.1 hP 1 rfl rfl 3 (by decide) hf_18 (fun _ h9 => h9) rfl dX1_mayEnter_30 ?_
      refine lv_iload hx hb dX1_mayEnter_33 (lv_at hl 0 rfl) ?_
      refine na_iald hx hb hX.1 hP 5 0 rfl rfl (by omega) (by decide) dX1_mayEnter_35 ?_
      refine lv_iload_n hx hb dX1_mayEnter_36 rfl (lv_at hl 3 rfl) ?_
      refine na_icmp_lt (tgt := 60) hx hb (by omega) (by omega) dX1_mayEnter_37 (by decide) (fun h_37 => ?_) (fun h_37 => ?_)
      · skip
        refine lv_iconst (v := nI 0) hx hb dX1_mayEnter_60 (by decide) ?_
        exact W.zret (v := nI 0) hx hb hr (nar_b _ (by first | decide | omega | exact bN_le _)) (fun t ht hW => ⟨_, rfl, bN0 (by first | (simp [mvE]; done) | (simp [mvE]; omega)), ht⟩) (fun _ h => by cases h) dX1_mayEnter_61
      · skip
        refine lv_iload_n hx hb dX1_mayEnter_40 rfl (lv_at hl 2 rfl) ?_
        refine lv_iconst (v := nI 2) hx hb dX1_mayEnter_41 (by decide) ?_
        refine na_irem2 hx hb (by omega) dX1_mayEnter_42 ?_
        refine na_if_eq (tgt := 56) hx hb (by omega) dX1_mayEnter_43 (by decide) (fun h_43 => ?_) (fun h_43 => ?_)
        · skip
          refine lv_iconst (v := nI 1) hx hb dX1_mayEnter_56 (by decide) ?_
          refine lv_goto (tgt := 61) hx hb dX1_mayEnter_57 (by decide) ?_
          exact W.zret (v := nI 1) hx hb hr (nar_b _ (by first | decide | omega | exact bN_le _)) (fun t ht hW => ⟨_, rfl, bN1 (by first | (simp [mvE]; done) | (simp [mvE]; omega)), ht⟩) (fun _ h => by cases h) dX1_mayEnter_61
        · skip
          refine lv_aload_n hx hb dX1_mayEnter_46 rfl (lv_at hl 1 rfl) ?_
          refine va_get (D := D) (v := .ref (q 6)) hx hb hts hin_X1 hown hX.1 hP 1 rfl rfl 4 (by decide) hf_21 (fun _ h9 => h9) rfl dX1_mayEnter_47 ?_
          refine lv_iload hx hb dX1_mayEnter_50 (lv_at hl 0 rfl) ?_
          refine na_zald hx hb hX.1 hP 6 1 rfl rfl (by omega) (by decide) dX1_mayEnter_52 ?_
          refine na_if_eq (tgt := 60) hx hb (by omega) dX1_mayEnter_53 (by decide) (fun h_53 => ?_) (fun h_53 => ?_)
          · skip
            refine lv_iconst (v := nI 0) hx hb dX1_mayEnter_60 (by decide) ?_
            exact W.zret (v := nI 0) hx hb hr (nar_b _ (by first | decide | omega | exact bN_le _)) (fun t ht hW => ⟨_, rfl, bN0 (by first | (simp [mvE]; done) | (simp [mvE]; omega)), ht⟩) (fun _ h => by cases h) dX1_mayEnter_61
          · skip
            refine lv_iconst (v := nI 1) hx hb dX1_mayEnter_56 (by decide) ?_
            refine lv_goto (tgt := 61) hx hb dX1_mayEnter_57 (by decide) ?_
            exact W.zret (v := nI 1) hx hb hr (nar_b _ (by first | decide | omega | exact bN_le _)) (fun t ht hW => ⟨_, rfl, bN1 (by first | (simp [mvE]; done) | (simp [mvE]; omega)), ht⟩) (fun _ h => by cases h) dX1_mayEnter_61

set_option maxHeartbeats 4000000 in
set_option maxRecDepth 100000 in
theorem k_X1_barredAmong (l : Launch) (D : va_G) (q : Nat → Nat) (k : Nat → ClassId) (r : Nat → Nat) (S Z : Nat → Nat → Nat) (a0 : Nat) (b0 : Nat) (hB : Bd S) (ha : a0 ≤ b0) (hb0 : b0 ≤ 80) : Met l yX1_barredAmong wsX1_barredAmong ({ frames := 0, cells := 0, slots := 0, locals := 0 } : Room) (va_Pc [.ref (q 1), .int (nI a0), .int (nI b0)] (rB D k (wC q k r S Z))) (vp_Si (fun r => r = nI (sm (S 10) a0 (b0 - a0)))) 0 0 (fun _ => False) := by
  refine Met.ofW (cc := cX1_barredAmong) (maxL := 5) (ret := (some .int)) (by decide) rfl ?_
  intro p e s m args below meth c s₁ B hml hv
  obtain ⟨rfl, hP, hX⟩ := hv
  have hx := B.exec
  have hb := B.bytes
  have hr := B.returns
  have hts := atoms_spec (ws := wsX1_barredAmong) B.pre
  have hown : s.vm.findClass RX1 = some m.cls := findClass_of_methodNamed B.named
  have hlocks := B.notSynchronized
  have hf_40 := hts (.fieldLink RX1 40 "FloorGraph$Floor" "barred" "[Z") (by decide +kernel)
  have hin_X1 : ∀ w ∈ u_ws RX1 TX1 14, w ∈ wsX1_barredAmong := by decide +kernel
  have hl := lv_entry ([.ref (q 1), .int (nI a0), .int (nI b0)]) (n := 5) (Nat.le_of_ble_eq_true rfl)
  rw [lg_entry_eq]
  generalize (lg_sl ([.ref (q 1), .int (nI a0), .int (nI b0)]) ++ List.replicate (5 - (lg_sl ([.ref (q 1), .int (nI a0), .int (nI b0)])).length) Slot.unset).toArray = ls at hl ⊢
  have hl : lv_has ls 5 [(0, .ref (q 1)), (1, .int (nI a0)), (2, .int (nI b0))] := hl
  refine lv_iconst (v := nI 0) hx hb dX1_barredAmong_0 (by decide) ?_
  refine lv_istore_n (lv' := [(3, .int (nI 0)), (0, .ref (q 1)), (1, .int (nI a0)), (2, .int (nI b0))]) hx hb dX1_barredAmong_1 rfl hl (by decide) rfl (fun ls hl => ?_)
  refine lv_iload_n hx hb dX1_barredAmong_2 rfl (lv_at hl 2 rfl) ?_
  refine lv_istore (lv' := [(4, .int (nI a0)), (3, .int (nI 0)), (0, .ref (q 1)), (1, .int (nI a0)), (2, .int (nI b0))]) hx hb dX1_barredAmong_3 hl (by decide) rfl (fun ls hl => ?_)
  have L5 : ∀ (n5 : Nat) (i : Nat) (f : Nat), (b0 < i + n5) → (h1 : i ≤ b0) → (h2 : a0 ≤ i) → (h3 : f = sm (S 10) a0 (i - a0)) → ∀ (ls : Array Slot), lv_has ls 5 [(4, .int (nI i)), (3, .int (nI f)), (0, .ref (q 1)), (1, .int (nI a0)), (2, .int (nI b0))] → W p l e (headSpec wsX1_barredAmong ({ frames := 0, cells := 0, slots := 0, locals := 0 } : Room)).room s m [.ref (q 1), .int (nI a0), .int (nI b0)].toArray below meth c s.heap [] 0 0 (MQ below (vp_Si (fun r => r = nI (sm (S 10) a0 (b0 - a0)))) [.ref (q 1), .int (nI a0), .int (nI b0)].toArray s 0 0 (fun _ => False)) (F0 m 5 ls []) := by
    intro n5
    induction n5 with
    | zero =>
      intro i f hfuel5 h1 h2 h3 ls hl
      exact absurd hfuel5 (by omega)
    | succ n5 ih5 =>
      intro i f hfuel5 h1 h2 h3 ls hl
      have f1 := hB.2.2.1 i
      have f2 := sm_le (a := a0) (fun i => (hB.2.2.1 i).2) (i - a0)
      refine lv_iload hx hb dX1_barredAmong_5 (lv_at hl 0 rfl) ?_
      refine lv_iload_n hx hb dX1_barredAmong_7 rfl (lv_at hl 4 rfl) ?_
      refine na_icmp_ge (tgt := 30) hx hb (by omega) (by omega) dX1_barredAmong_8 (by decide) (fun h_8 => ?_) (fun h_8 => ?_)
      · skip
        refine lv_iload_n hx hb dX1_barredAmong_30 rfl (lv_at hl 1 rfl) ?_
        exact W.iret (v := nI f) hx hb hr (fun t ht hW => ⟨_, rfl, by rw [h3, show i = b0 by omega], ht⟩) (fun _ h => by cases h) dX1_barredAmong_31
      · skip
        refine lv_aload_n hx hb dX1_barredAmong_11 rfl (lv_at hl 2 rfl) ?_
        refine va_get (D := D) (v := .ref (q 12)) hx hb hts hin_X1 hown hX.1 hP 1 rfl rfl 11 (by decide) hf_40 (fun _ h9 => h9) rfl dX1_barredAmong_12 ?_
        refine lv_iload hx hb dX1_barredAmong_15 (lv_at hl 0 rfl) ?_
        refine na_zald hx hb hX.1 hP 12 1 rfl rfl (by omega) (by decide) dX1_barredAmong_17 ?_
        refine na_if_eq (tgt := 24) hx hb (by omega) dX1_barredAmong_18 (by decide) (fun h_18 => ?_) (fun h_18 => ?_)
        · skip
          refine lv_iinc (v := nI (i + 1)) (lv' := [(4, .int (nI (i + 1))), (3, .int (nI f)), (0, .ref (q 1)), (1, .int (nI a0)), (2, .int (nI b0))]) hx hb dX1_barredAmong_24 hl (k := 0) rfl (nI_add _ 1) (by decide) rfl (fun ls hl => ?_)
          refine lv_goto (tgt := 5) hx hb dX1_barredAmong_27 (by decide) ?_
          exact ih5 (i + 1) f (by omega) (by omega) (by omega) (by rw [sm_step h2]; omega) ls hl
        · skip
          refine lv_iinc (v := nI (f + 1)) (lv' := [(3, .int (nI (f + 1))), (4, .int (nI i)), (0, .ref (q 1)), (1, .int (nI a0)), (2, .int (nI b0))]) hx hb dX1_barredAmong_21 hl (k := 1) rfl (nI_add _ 1) (by decide) rfl (fun ls hl => ?_)
          refine lv_iinc (v := nI (i + 1)) (lv' := [(4, .int (nI (i + 1))), (3, .int (nI (f + 1))), (0, .ref (q 1)), (1, .int (nI a0)), (2, .int (nI b0))]) hx hb dX1_barredAmong_24 hl (k := 1) rfl (nI_add _ 1) (by decide) rfl (fun ls hl => ?_)
          refine lv_goto (tgt := 5) hx hb dX1_barredAmong_27 (by decide) ?_
          exact ih5 (i + 1) ((f + 1)) (by omega) (by omega) (by omega) (by rw [sm_step h2]; omega) ls hl
  exact L5 (b0 + 1) a0 0 (by omega) ha (by omega) (by rw [Nat.sub_self]; rfl) ls hl

set_option maxHeartbeats 4000000 in
set_option maxRecDepth 100000 in
theorem k_X1_shutPieces (l : Launch) (D : va_G) (q : Nat → Nat) (k : Nat → ClassId) (r : Nat → Nat) (S Z : Nat → Nat → Nat) (hB : Bd S) : Met l yX1_shutPieces wsX1_shutPieces ({ frames := 0, cells := 0, slots := 0, locals := 0 } : Room) (va_Pc [.ref (q 1)] (rB D k (wC q k r S Z))) (vp_Si (fun r => r = nI (sm (S 5) 0 (S 0 0)))) 0 0 (fun _ => False) := by
  refine Met.ofW (cc := cX1_shutPieces) (maxL := 3) (ret := (some .int)) (by decide) rfl ?_
  intro p e s m args below meth c s₁ B hml hv
  obtain ⟨rfl, hP, hX⟩ := hv
  have hx := B.exec
  have hb := B.bytes
  have hr := B.returns
  have hts := atoms_spec (ws := wsX1_shutPieces) B.pre
  have hown : s.vm.findClass RX1 = some m.cls := findClass_of_methodNamed B.named
  have hlocks := B.notSynchronized
  have hf_25 := hts (.fieldLink RX1 25 "FloorGraph$Floor" "shut" "[Z") (by decide +kernel)
  have hf_51 := hts (.fieldLink RX1 51 "FloorGraph$Floor" "pieces" "I") (by decide +kernel)
  have hin_X1 : ∀ w ∈ u_ws RX1 TX1 14, w ∈ wsX1_shutPieces := by decide +kernel
  have f0 := hB.1
  have hl := lv_entry ([.ref (q 1)]) (n := 3) (Nat.le_of_ble_eq_true rfl)
  rw [lg_entry_eq]
  generalize (lg_sl ([.ref (q 1)]) ++ List.replicate (3 - (lg_sl ([.ref (q 1)])).length) Slot.unset).toArray = ls at hl ⊢
  have hl : lv_has ls 3 [(0, .ref (q 1))] := hl
  refine lv_iconst (v := nI 0) hx hb dX1_shutPieces_0 (by decide) ?_
  refine lv_istore_n (lv' := [(1, .int (nI 0)), (0, .ref (q 1))]) hx hb dX1_shutPieces_1 rfl hl (by decide) rfl (fun ls hl => ?_)
  refine lv_iconst (v := nI 0) hx hb dX1_shutPieces_2 (by decide) ?_
  refine lv_istore_n (lv' := [(2, .int (nI 0)), (1, .int (nI 0)), (0, .ref (q 1))]) hx hb dX1_shutPieces_3 rfl hl (by decide) rfl (fun ls hl => ?_)
  have L4 : ∀ (n4 : Nat) (i : Nat) (f : Nat), (S 0 0 < i + n4) → (h1 : i ≤ S 0 0) → (h3 : f = sm (S 5) 0 i) → ∀ (ls : Array Slot), lv_has ls 3 [(2, .int (nI i)), (1, .int (nI f)), (0, .ref (q 1))] → W p l e (headSpec wsX1_shutPieces ({ frames := 0, cells := 0, slots := 0, locals := 0 } : Room)).room s m [.ref (q 1)].toArray below meth c s.heap [] 0 0 (MQ below (vp_Si (fun r => r = nI (sm (S 5) 0 (S 0 0)))) [.ref (q 1)].toArray s 0 0 (fun _ => False)) (F0 m 4 ls []) := by
    intro n4
    induction n4 with
    | zero =>
      intro i f hfuel4 h1 h3 ls hl
      exact absurd hfuel4 (by omega)
    | succ n4 ih4 =>
      intro i f hfuel4 h1 h3 ls hl
      have f1 := hB.2.1 i
      have f2 := sm_le (a := 0) (fun i => (hB.2.1 i).2.2.2.2.1) i
      refine lv_iload_n hx hb dX1_shutPieces_4 rfl (lv_at hl 0 rfl) ?_
      refine lv_aload_n hx hb dX1_shutPieces_5 rfl (lv_at hl 2 rfl) ?_
      refine va_get (D := D) (v := .int (nI (S 0 0))) hx hb hts hin_X1 hown hX.1 hP 1 rfl rfl 0 (by decide) hf_51 (fun _ h9 => h9) rfl dX1_shutPieces_6 ?_
      refine na_icmp_ge (tgt := 30) hx hb (by omega) (by omega) dX1_shutPieces_9 (by decide) (fun h_9 => ?_) (fun h_9 => ?_)
      · skip
        refine lv_iload_n hx hb dX1_shutPieces_30 rfl (lv_at hl 1 rfl) ?_
        exact W.iret (v := nI f) hx hb hr (fun t ht hW => ⟨_, rfl, by rw [h3, show i = S 0 0 by omega], ht⟩) (fun _ h => by cases h) dX1_shutPieces_31
      · skip
        refine lv_aload_n hx hb dX1_shutPieces_12 rfl (lv_at hl 2 rfl) ?_
        refine va_get (D := D) (v := .ref (q 7)) hx hb hts hin_X1 hown hX.1 hP 1 rfl rfl 5 (by decide) hf_25 (fun _ h9 => h9) rfl dX1_shutPieces_13 ?_
        refine lv_iload_n hx hb dX1_shutPieces_16 rfl (lv_at hl 0 rfl) ?_
        refine na_zald hx hb hX.1 hP 7 1 rfl rfl (by omega) (by decide) dX1_shutPieces_17 ?_
        refine na_if_eq (tgt := 24) hx hb (by omega) dX1_shutPieces_18 (by decide) (fun h_18 => ?_) (fun h_18 => ?_)
        · skip
          refine lv_iinc (v := nI (i + 1)) (lv' := [(2, .int (nI (i + 1))), (1, .int (nI f)), (0, .ref (q 1))]) hx hb dX1_shutPieces_24 hl (k := 0) rfl (nI_add _ 1) (by decide) rfl (fun ls hl => ?_)
          refine lv_goto (tgt := 4) hx hb dX1_shutPieces_27 (by decide) ?_
          exact ih4 (i + 1) f (by omega) (by omega) (by show _ = sm (S 5) 0 i + S 5 (0 + i); rw [Nat.zero_add]; omega) ls hl
        · skip
          refine lv_iinc (v := nI (f + 1)) (lv' := [(1, .int (nI (f + 1))), (2, .int (nI i)), (0, .ref (q 1))]) hx hb dX1_shutPieces_21 hl (k := 1) rfl (nI_add _ 1) (by decide) rfl (fun ls hl => ?_)
          refine lv_iinc (v := nI (i + 1)) (lv' := [(2, .int (nI (i + 1))), (1, .int (nI (f + 1))), (0, .ref (q 1))]) hx hb dX1_shutPieces_24 hl (k := 1) rfl (nI_add _ 1) (by decide) rfl (fun ls hl => ?_)
          refine lv_goto (tgt := 4) hx hb dX1_shutPieces_27 (by decide) ?_
          exact ih4 (i + 1) ((f + 1)) (by omega) (by omega) (by show _ = sm (S 5) 0 i + S 5 (0 + i); rw [Nat.zero_add]; omega) ls hl
  exact L4 (S 0 0 + 1) 0 0 (by omega) (by omega) rfl ls hl

set_option maxHeartbeats 4000000 in
set_option maxRecDepth 100000 in
theorem k_X1_hasPieceFor (l : Launch) (D : va_G) (q : Nat → Nat) (k : Nat → ClassId) (r : Nat → Nat) (S Z : Nat → Nat → Nat) (w0 : Nat) (hB : Bd S) (hw : w0 ≤ 500) : Met l yX1_hasPieceFor wsX1_hasPieceFor ({ frames := 0, cells := 0, slots := 0, locals := 0 } : Room) (va_Pc [.ref (q 1), .int (nI w0)] (rB D k (wC q k r S Z))) (vp_Si (fun r => r = nI (bN (anyB (fun j => decide (w0 ≤ S 3 j)) (S 0 0))))) 0 0 (fun _ => False) := by
  refine Met.ofW (cc := cX1_hasPieceFor) (maxL := 3) (ret := (some .boolean)) (by decide) rfl ?_
  intro p e s m args below meth c s₁ B hml hv
  obtain ⟨rfl, hP, hX⟩ := hv
  have hx := B.exec
  have hb := B.bytes
  have hr := B.returns
  have hts := atoms_spec (ws := wsX1_hasPieceFor) B.pre
  have hown : s.vm.findClass RX1 = some m.cls := findClass_of_methodNamed B.named
  have hlocks := B.notSynchronized
  have hf_18 := hts (.fieldLink RX1 18 "FloorGraph$Floor" "widths" "[I") (by decide +kernel)
  have hf_51 := hts (.fieldLink RX1 51 "FloorGraph$Floor" "pieces" "I") (by decide +kernel)
  have hin_X1 : ∀ w ∈ u_ws RX1 TX1 14, w ∈ wsX1_hasPieceFor := by decide +kernel
  have f0 := hB.1
  have hl := lv_entry ([.ref (q 1), .int (nI w0)]) (n := 3) (Nat.le_of_ble_eq_true rfl)
  rw [lg_entry_eq]
  generalize (lg_sl ([.ref (q 1), .int (nI w0)]) ++ List.replicate (3 - (lg_sl ([.ref (q 1), .int (nI w0)])).length) Slot.unset).toArray = ls at hl ⊢
  have hl : lv_has ls 3 [(0, .ref (q 1)), (1, .int (nI w0))] := hl
  refine lv_iconst (v := nI 0) hx hb dX1_hasPieceFor_0 (by decide) ?_
  refine lv_istore_n (lv' := [(2, .int (nI 0)), (0, .ref (q 1)), (1, .int (nI w0))]) hx hb dX1_hasPieceFor_1 rfl hl (by decide) rfl (fun ls hl => ?_)
  have L2 : ∀ (n2 : Nat) (i : Nat), (S 0 0 < i + n2) → (h1 : i ≤ S 0 0) → (h3 : anyB (fun j => decide (w0 ≤ S 3 j)) i = false) → ∀ (ls : Array Slot), lv_has ls 3 [(2, .int (nI i)), (0, .ref (q 1)), (1, .int (nI w0))] → W p l e (headSpec wsX1_hasPieceFor ({ frames := 0, cells := 0, slots := 0, locals := 0 } : Room)).room s m [.ref (q 1), .int (nI w0)].toArray below meth c s.heap [] 0 0 (MQ below (vp_Si (fun r => r = nI (bN (anyB (fun j => decide (w0 ≤ S 3 j)) (S 0 0))))) [.ref (q 1), .int (nI w0)].toArray s 0 0 (fun _ => False)) (F0 m 2 ls []) := by
    intro n2
    induction n2 with
    | zero =>
      intro i hfuel2 h1 h3 ls hl
      exact absurd hfuel2 (by omega)
    | succ n2 ih2 =>
      intro i hfuel2 h1 h3 ls hl
      have f1 := hB.2.1 i
      refine lv_iload_n hx hb dX1_hasPieceFor_2 rfl (lv_at hl 0 rfl) ?_
      refine lv_aload_n hx hb dX1_hasPieceFor_3 rfl (lv_at hl 1 rfl) ?_
      refine va_get (D := D) (v := .int (nI (S 0 0))) hx hb hts hin_X1 hown hX.1 hP 1 rfl rfl 0 (by decide) hf_51 (fun _ h9 => h9) rfl dX1_hasPieceFor_4 ?_
      refine na_icmp_ge (tgt := 28) hx hb (by omega) (by omega) dX1_hasPieceFor_7 (by decide) (fun h_7 => ?_) (fun h_7 => ?_)
      · skip
        refine lv_iconst (v := nI 0) hx hb dX1_hasPieceFor_28 (by decide) ?_
        exact W.zret (v := nI 0) hx hb hr (nar_b _ (by first | decide | omega | exact bN_le _)) (fun t ht hW => ⟨_, rfl, bN0 (by rw [← show i = S 0 0 by omega]; exact h3), ht⟩) (fun _ h => by cases h) dX1_hasPieceFor_29
      · skip
        refine lv_aload_n hx hb dX1_hasPieceFor_10 rfl (lv_at hl 1 rfl) ?_
        refine va_get (D := D) (v := .ref (q 5)) hx hb hts hin_X1 hown hX.1 hP 1 rfl rfl 3 (by decide) hf_18 (fun _ h9 => h9) rfl dX1_hasPieceFor_11 ?_
        refine lv_iload_n hx hb dX1_hasPieceFor_14 rfl (lv_at hl 0 rfl) ?_
        refine na_iald hx hb hX.1 hP 5 0 rfl rfl (by omega) (by decide) dX1_hasPieceFor_15 ?_
        refine lv_iload_n hx hb dX1_hasPieceFor_16 rfl (lv_at hl 2 rfl) ?_
        refine na_icmp_lt (tgt := 22) hx hb (by omega) (by omega) dX1_hasPieceFor_17 (by decide) (fun h_17 => ?_) (fun h_17 => ?_)
        · skip
          refine lv_iinc (v := nI (i + 1)) (lv' := [(2, .int (nI (i + 1))), (0, .ref (q 1)), (1, .int (nI w0))]) hx hb dX1_hasPieceFor_22 hl (k := 0) rfl (nI_add _ 1) (by decide) rfl (fun ls hl => ?_)
          refine lv_goto (tgt := 2) hx hb dX1_hasPieceFor_25 (by decide) ?_
          exact ih2 (i + 1) (by omega) (by omega) (anyB_s h3 (by simp; omega)) ls hl
        · skip
          refine lv_iconst (v := nI 1) hx hb dX1_hasPieceFor_20 (by decide) ?_
          exact W.zret (v := nI 1) hx hb hr (nar_b _ (by first | decide | omega | exact bN_le _)) (fun t ht hW => ⟨_, rfl, bN1 (anyB_t (i := i) (by simp; omega) (by omega)), ht⟩) (fun _ h => by cases h) dX1_hasPieceFor_21
  exact L2 (S 0 0 + 1) 0 (by omega) (by omega) rfl ls hl
