set_option maxHeartbeats 4000000 in
set_option maxRecDepth 100000 in
theorem k_X0_secondAt (l : Launch) (D : va_G) (q : Nat → Nat) (k : Nat → ClassId) (r : Nat → Nat) (S Z : Nat → Nat → Nat) (p0 : Nat) (hB : Bd S) (hZ1 : ∀ e, Z 1 e ≤ 1000000) (hZ0 : ∀ p, Z 0 p ≤ 1) (hp : p0 < S 0 1) : Met l yX0_secondAt wsX0_secondAt ({ frames := 0, cells := 0, slots := 0, locals := 0 } : Room) (va_Pc [.ref (q 2), .ref (q 1), .int (nI p0)] (rB D k (wC q k r S Z))) (vp_Si (fun r => r = nI (sAt S (oZ Z) (Z 1) p0))) 0 0 (fun _ => False) := by
  refine Met.ofW (cc := cX0_secondAt) (maxL := 4) (ret := (some .int)) (by decide) rfl ?_
  intro p e s m args below meth c s₁ B hml hv
  obtain ⟨rfl, hP, hX⟩ := hv
  have hx := B.exec
  have hb := B.bytes
  have hr := B.returns
  have hts := atoms_spec (ws := wsX0_secondAt) B.pre
  have hown : s.vm.findClass RX0 = some m.cls := findClass_of_methodNamed B.named
  have hlocks := B.notSynchronized
  have hf_9 := hts (.fieldLink RX0 9 "FloorGraph$Drive" "open" "[Z") (by decide +kernel)
  have hf_15 := hts (.fieldLink RX0 15 "FloorGraph$Drive" "reached" "[I") (by decide +kernel)
  have hf_57 : (Cond.fieldLinkNest "FloorGraph$Drive" 57 "FloorGraph$Floor" "starts" "[I" "FloorGraph").before _ s = true := va_Nw.use (A := [.ref (q 2), .ref (q 1), .int (nI p0)].toArray) rfl (hX.2.1 ("FloorGraph$Drive", 57, "FloorGraph$Floor", "starts", "[I", "FloorGraph") (by decide +kernel))
  have hf_60 : (Cond.fieldLinkNest "FloorGraph$Drive" 60 "FloorGraph$Floor" "turnSeconds" "[I" "FloorGraph").before _ s = true := va_Nw.use (A := [.ref (q 2), .ref (q 1), .int (nI p0)].toArray) rfl (hX.2.1 ("FloorGraph$Drive", 60, "FloorGraph$Floor", "turnSeconds", "[I", "FloorGraph") (by decide +kernel))
  have hin_X0 : ∀ w ∈ u_ws RX0 TX0 3, w ∈ wsX0_secondAt := by decide +kernel
  have hin_X1 : ∀ w ∈ u_ws RX1 TX1 14, w ∈ wsX0_secondAt := by decide +kernel
  have f0 := hB.1
  have f7 := hB.2.2.2.1 p0 hp
  have f9 := hB.2.2.1 p0
  have fr := hZ1 (S 7 p0)
  have fo := hZ0 p0
  have hl := lv_entry ([.ref (q 2), .ref (q 1), .int (nI p0)]) (n := 4) (Nat.le_of_ble_eq_true rfl)
  rw [lg_entry_eq]
  generalize (lg_sl ([.ref (q 2), .ref (q 1), .int (nI p0)]) ++ List.replicate (4 - (lg_sl ([.ref (q 2), .ref (q 1), .int (nI p0)])).length) Slot.unset).toArray = ls at hl ⊢
  have hl : lv_has ls 4 [(0, .ref (q 2)), (1, .ref (q 1)), (2, .int (nI p0))] := hl
  refine lv_aload_n hx hb dX0_secondAt_0 rfl (lv_at hl 0 rfl) ?_
  refine va_get (D := D) (v := .ref (q 16)) hx hb hts hin_X0 hown hX.1 hP 2 rfl rfl 1 (by decide) hf_15 (fun _ h9 => h9) rfl dX0_secondAt_1 ?_
  refine lv_aload_n hx hb dX0_secondAt_4 rfl (lv_at hl 1 rfl) ?_
  refine va_getN (D := D) (v := .ref (q 9)) hx hb hts hin_X1 hown hX.1 hP 1 rfl rfl 8 (by decide) hf_57 (fun _ h9 => h9) rfl dX0_secondAt_5 ?_
  refine lv_iload_n hx hb dX0_secondAt_8 rfl (lv_at hl 2 rfl) ?_
  refine na_iald hx hb hX.1 hP 9 0 rfl rfl (by omega) (by decide) dX0_secondAt_9 ?_
  refine na_iald hx hb hX.1 hP 16 0 rfl rfl (by omega) (by decide) dX0_secondAt_10 ?_
  refine lv_istore_n (lv' := [(3, .int (nI (Z 1 (S 7 p0)))), (0, .ref (q 2)), (1, .ref (q 1)), (2, .int (nI p0))]) hx hb dX0_secondAt_11 rfl hl (by decide) rfl (fun ls hl => ?_)
  refine lv_aload_n hx hb dX0_secondAt_12 rfl (lv_at hl 1 rfl) ?_
  refine va_get (D := D) (v := .ref (q 15)) hx hb hts hin_X0 hown hX.1 hP 2 rfl rfl 0 (by decide) hf_9 (fun _ h9 => h9) rfl dX0_secondAt_13 ?_
  refine lv_iload_n hx hb dX0_secondAt_16 rfl (lv_at hl 3 rfl) ?_
  refine na_zald hx hb hX.1 hP 15 1 rfl rfl (by omega) (by decide) dX0_secondAt_17 ?_
  refine na_if_eq (tgt := 27) hx hb (by omega) dX0_secondAt_18 (by decide) (fun h_18 => ?_) (fun h_18 => ?_)
  · skip
    refine lv_ldc (v := nI 1000000) hx hb hown (hts (.constant RX0 38 (1000000)) (by decide +kernel)) dX0_secondAt_27 ?_
    exact W.iret (v := nI 1000000) hx hb hr (fun t ht hW => ⟨_, rfl, congrArg nI (by unfold sAt; split <;> rename_i hh <;> simp [oZ] at hh <;> omega), ht⟩) (fun _ h => by cases h) dX0_secondAt_29
  · skip
    refine lv_iload_n hx hb dX0_secondAt_21 rfl (lv_at hl 0 rfl) ?_
    refine lv_ldc (v := nI 1000000) hx hb hown (hts (.constant RX0 38 (1000000)) (by decide +kernel)) dX0_secondAt_22 ?_
    refine na_icmp_ne (tgt := 30) hx hb (by omega) (by omega) dX0_secondAt_24 (by decide) (fun h_24 => ?_) (fun h_24 => ?_)
    · skip
      refine lv_iload_n hx hb dX0_secondAt_30 rfl (lv_at hl 0 rfl) ?_
      refine lv_aload_n hx hb dX0_secondAt_31 rfl (lv_at hl 2 rfl) ?_
      refine va_getN (D := D) (v := .ref (q 11)) hx hb hts hin_X1 hown hX.1 hP 1 rfl rfl 10 (by decide) hf_60 (fun _ h9 => h9) rfl dX0_secondAt_32 ?_
      refine lv_iload_n hx hb dX0_secondAt_35 rfl (lv_at hl 3 rfl) ?_
      refine na_iald hx hb hX.1 hP 11 0 rfl rfl (by omega) (by decide) dX0_secondAt_36 ?_
      refine na_iadd hx hb dX0_secondAt_37 ?_
      exact W.iret (v := nI ((Z 1 (S 7 p0)) + (S 9 p0))) hx hb hr (fun t ht hW => ⟨_, rfl, congrArg nI (by unfold sAt; split <;> rename_i hh <;> simp [oZ] at hh <;> omega), ht⟩) (fun _ h => by cases h) dX0_secondAt_38
    · skip
      refine lv_ldc (v := nI 1000000) hx hb hown (hts (.constant RX0 38 (1000000)) (by decide +kernel)) dX0_secondAt_27 ?_
      exact W.iret (v := nI 1000000) hx hb hr (fun t ht hW => ⟨_, rfl, congrArg nI (by unfold sAt; split <;> rename_i hh <;> simp [oZ] at hh <;> omega), ht⟩) (fun _ h => by cases h) dX0_secondAt_29

set_option maxHeartbeats 4000000 in
set_option maxRecDepth 100000 in
theorem k_X0_secondBehind (l : Launch) (D : va_G) (q : Nat → Nat) (k : Nat → ClassId) (r : Nat → Nat) (S Z : Nat → Nat → Nat) (p0 : Nat) (hB : Bd S) (hZ1 : ∀ e, Z 1 e ≤ 1000000) (hZ0 : ∀ p, Z 0 p ≤ 1) (hp : p0 < S 0 1) : Met l yX0_secondBehind wsX0_secondBehind ({ frames := 1, cells := 0, slots := 0, locals := 23 } : Room) (va_Pc [.ref (q 2), .ref (q 1), .int (nI p0)] (rB D k (wC q k r S Z))) (vp_Si (fun r => r = nI (sBh S (oZ Z) (Z 1) p0))) 0 0 (fun _ => False) := by
  refine Met.ofW (cc := cX0_secondBehind) (maxL := 4) (ret := (some .int)) (by decide) rfl ?_
  intro p e s m args below meth c s₁ B hml hv
  obtain ⟨rfl, hP, hX⟩ := hv
  have hx := B.exec
  have hb := B.bytes
  have hr := B.returns
  have hts := atoms_spec (ws := wsX0_secondBehind) B.pre
  have hown : s.vm.findClass RX0 = some m.cls := findClass_of_methodNamed B.named
  have hlocks := B.notSynchronized
  have hf_31 : (Cond.fieldLinkNest "FloorGraph$Drive" 31 "FloorGraph$Floor" "goals" "[I" "FloorGraph").before _ s = true := va_Nw.use (A := [.ref (q 2), .ref (q 1), .int (nI p0)].toArray) rfl (hX.2.1 ("FloorGraph$Drive", 31, "FloorGraph$Floor", "goals", "[I", "FloorGraph") (by decide +kernel))
  have hf_66 : (Cond.fieldLinkNest "FloorGraph$Drive" 66 "FloorGraph$Floor" "lengths" "[I" "FloorGraph").before _ s = true := va_Nw.use (A := [.ref (q 2), .ref (q 1), .int (nI p0)].toArray) rfl (hX.2.1 ("FloorGraph$Drive", 66, "FloorGraph$Floor", "lengths", "[I", "FloorGraph") (by decide +kernel))
  have hin_X1 : ∀ w ∈ u_ws RX1 TX1 14, w ∈ wsX0_secondBehind := by decide +kernel
  have f0 := hB.1
  have f7 := hB.2.2.2.1 p0 hp
  have fs := sAt_le (fun p => (hB.2.2.1 p).1) hZ1 (o := oZ Z) p0
  have f2 := hB.2.1 (S 8 p0 / 2)
  have hl := lv_entry ([.ref (q 2), .ref (q 1), .int (nI p0)]) (n := 4) (Nat.le_of_ble_eq_true rfl)
  rw [lg_entry_eq]
  generalize (lg_sl ([.ref (q 2), .ref (q 1), .int (nI p0)]) ++ List.replicate (4 - (lg_sl ([.ref (q 2), .ref (q 1), .int (nI p0)])).length) Slot.unset).toArray = ls at hl ⊢
  have hl : lv_has ls 4 [(0, .ref (q 2)), (1, .ref (q 1)), (2, .int (nI p0))] := hl
  refine lv_aload_n hx hb dX0_secondBehind_0 rfl (lv_at hl 0 rfl) ?_
  refine lv_aload_n hx hb dX0_secondBehind_1 rfl (lv_at hl 1 rfl) ?_
  refine lv_iload_n hx hb dX0_secondBehind_2 rfl (lv_at hl 2 rfl) ?_
  refine rd_V (As := [.ref (q 1), .int (nI p0)]) (rest := []) ⟨hx, hb, hml, hown, hts⟩ (k_X0_secondAt l D q k r S Z p0 hB hZ1 hZ0 hp) (cwV 2 hts gX0_secondBehind_X0_secondAt rfl rfl rfl (by decide +kernel) ⟨by decide, by decide⟩) hX hP (q0 := 2) rfl rfl rfl hl.1 rfl (Nat.le_of_ble_eq_true rfl) dX0_secondBehind_3 ⟨Nat.zero_le _, Nat.zero_le _⟩ ?_
  refine lv_istore_n (lv' := [(3, .int (nI (sAt S (oZ Z) (Z 1) p0))), (0, .ref (q 2)), (1, .ref (q 1)), (2, .int (nI p0))]) hx hb dX0_secondBehind_6 rfl hl (by decide) rfl (fun ls hl => ?_)
  refine lv_iload_n hx hb dX0_secondBehind_7 rfl (lv_at hl 0 rfl) ?_
  refine lv_ldc (v := nI 1000000) hx hb hown (hts (.constant RX0 38 (1000000)) (by decide +kernel)) dX0_secondBehind_8 ?_
  refine na_icmp_ne (tgt := 16) hx hb (by omega) (by omega) dX0_secondBehind_10 (by decide) (fun h_10 => ?_) (fun h_10 => ?_)
  · skip
    refine lv_iload_n hx hb dX0_secondBehind_16 rfl (lv_at hl 0 rfl) ?_
    refine lv_aload_n hx hb dX0_secondBehind_17 rfl (lv_at hl 2 rfl) ?_
    refine va_getN (D := D) (v := .ref (q 4)) hx hb hts hin_X1 hown hX.1 hP 1 rfl rfl 2 (by decide) hf_66 (fun _ h9 => h9) rfl dX0_secondBehind_18 ?_
    refine lv_aload_n hx hb dX0_secondBehind_21 rfl (lv_at hl 2 rfl) ?_
    refine va_getN (D := D) (v := .ref (q 10)) hx hb hts hin_X1 hown hX.1 hP 1 rfl rfl 9 (by decide) hf_31 (fun _ h9 => h9) rfl dX0_secondBehind_22 ?_
    refine lv_iload_n hx hb dX0_secondBehind_25 rfl (lv_at hl 3 rfl) ?_
    refine na_iald hx hb hX.1 hP 10 0 rfl rfl (by omega) (by decide) dX0_secondBehind_26 ?_
    refine lv_iconst (v := nI 2) hx hb dX0_secondBehind_27 (by decide) ?_
    refine na_idiv2 hx hb (by omega) dX0_secondBehind_28 ?_
    refine na_iald hx hb hX.1 hP 4 0 rfl rfl (by omega) (by decide) dX0_secondBehind_29 ?_
    refine na_iadd hx hb dX0_secondBehind_30 ?_
    exact W.iret (v := nI ((sAt S (oZ Z) (Z 1) p0) + (S 2 ((S 8 p0) / 2)))) hx hb hr (fun t ht hW => ⟨_, rfl, congrArg nI (by unfold sBh; split <;> omega), ht⟩) (fun _ h => by cases h) dX0_secondBehind_31
  · skip
    refine lv_ldc (v := nI 1000000) hx hb hown (hts (.constant RX0 38 (1000000)) (by decide +kernel)) dX0_secondBehind_13 ?_
    exact W.iret (v := nI 1000000) hx hb hr (fun t ht hW => ⟨_, rfl, congrArg nI (by unfold sBh; split <;> omega), ht⟩) (fun _ h => by cases h) dX0_secondBehind_15

set_option maxHeartbeats 4000000 in
set_option maxRecDepth 100000 in
theorem k_X0_lastPassage (l : Launch) (D : va_G) (q : Nat → Nat) (k : Nat → ClassId) (r : Nat → Nat) (S Z : Nat → Nat → Nat) (t0 : Nat) (hB : Bd S) (hZ1 : ∀ e, Z 1 e ≤ 1000000) (hZ0 : ∀ p, Z 0 p ≤ 1) (ht : t0 < 20) : Met l yX0_lastPassage wsX0_lastPassage ({ frames := 1, cells := 0, slots := 0, locals := 23 } : Room) (va_Pc [.ref (q 2), .ref (q 1), .int (nI t0)] (rB D k (wC q k r S Z))) (vp_Si (fun r => r = pI (lpB S (oZ Z) (Z 1) t0 (S 0 1)).1)) 0 0 (fun _ => False) := by
  refine Met.ofW (cc := cX0_lastPassage) (maxL := 7) (ret := (some .int)) (by decide) rfl ?_
  intro p e s m args below meth c s₁ B hml hv
  obtain ⟨rfl, hP, hX⟩ := hv
  have hx := B.exec
  have hb := B.bytes
  have hr := B.returns
  have hts := atoms_spec (ws := wsX0_lastPassage) B.pre
  have hown : s.vm.findClass RX0 = some m.cls := findClass_of_methodNamed B.named
  have hlocks := B.notSynchronized
  have hf_22 : (Cond.fieldLinkNest "FloorGraph$Drive" 22 "FloorGraph$Floor" "passages" "I" "FloorGraph").before _ s = true := va_Nw.use (A := [.ref (q 2), .ref (q 1), .int (nI t0)].toArray) rfl (hX.2.1 ("FloorGraph$Drive", 22, "FloorGraph$Floor", "passages", "I", "FloorGraph") (by decide +kernel))
  have hf_31 : (Cond.fieldLinkNest "FloorGraph$Drive" 31 "FloorGraph$Floor" "goals" "[I" "FloorGraph").before _ s = true := va_Nw.use (A := [.ref (q 2), .ref (q 1), .int (nI t0)].toArray) rfl (hX.2.1 ("FloorGraph$Drive", 31, "FloorGraph$Floor", "goals", "[I", "FloorGraph") (by decide +kernel))
  have hin_X1 : ∀ w ∈ u_ws RX1 TX1 14, w ∈ wsX0_lastPassage := by decide +kernel
  have f0 := hB.1
  have hl := lv_entry ([.ref (q 2), .ref (q 1), .int (nI t0)]) (n := 7) (Nat.le_of_ble_eq_true rfl)
  rw [lg_entry_eq]
  generalize (lg_sl ([.ref (q 2), .ref (q 1), .int (nI t0)]) ++ List.replicate (7 - (lg_sl ([.ref (q 2), .ref (q 1), .int (nI t0)])).length) Slot.unset).toArray = ls at hl ⊢
  have hl : lv_has ls 7 [(0, .ref (q 2)), (1, .ref (q 1)), (2, .int (nI t0))] := hl
  refine lv_iconst (v := pI 0) hx hb dX0_lastPassage_0 (by decide) ?_
  refine lv_istore_n (lv' := [(3, .int (pI 0)), (0, .ref (q 2)), (1, .ref (q 1)), (2, .int (nI t0))]) hx hb dX0_lastPassage_1 rfl hl (by decide) rfl (fun ls hl => ?_)
  refine lv_ldc (v := nI 1000000) hx hb hown (hts (.constant RX0 38 (1000000)) (by decide +kernel)) dX0_lastPassage_2 ?_
  refine lv_istore (lv' := [(4, .int (nI 1000000)), (3, .int (pI 0)), (0, .ref (q 2)), (1, .ref (q 1)), (2, .int (nI t0))]) hx hb dX0_lastPassage_4 hl (by decide) rfl (fun ls hl => ?_)
  refine lv_iconst (v := nI 0) hx hb dX0_lastPassage_6 (by decide) ?_
  refine lv_istore (lv' := [(5, .int (nI 0)), (4, .int (nI 1000000)), (3, .int (pI 0)), (0, .ref (q 2)), (1, .ref (q 1)), (2, .int (nI t0))]) hx hb dX0_lastPassage_7 hl (by decide) rfl (fun ls hl => ?_)
  have L9 : ∀ (n9 : Nat) (i : Nat) (b : Nat) (x : Nat), (S 0 1 < i + n9) → (h1 : i ≤ S 0 1) → (h3 : lpB S (oZ Z) (Z 1) t0 i = (b, x)) → ∀ (ls : Array Slot), lv_has ls 7 [(5, .int (nI i)), (4, .int (nI x)), (3, .int (pI b)), (0, .ref (q 2)), (1, .ref (q 1)), (2, .int (nI t0))] → W p l e (headSpec wsX0_lastPassage ({ frames := 1, cells := 0, slots := 0, locals := 23 } : Room)).room s m [.ref (q 2), .ref (q 1), .int (nI t0)].toArray below meth c s.heap [] 0 0 (MQ below (vp_Si (fun r => r = pI (lpB S (oZ Z) (Z 1) t0 (S 0 1)).1)) [.ref (q 2), .ref (q 1), .int (nI t0)].toArray s 0 0 (fun _ => False)) (F0 m 9 ls []) := by
    intro n9
    induction n9 with
    | zero =>
      intro i b x hfuel9 h1 h3 ls hl
      exact absurd hfuel9 (by omega)
    | succ n9 ih9 =>
      intro i b x hfuel9 h1 h3 ls hl
      have f3 := lpB_ok (S := S) (o := oZ Z) (r := Z 1) (t := t0) i
      rw [h3] at f3
      dsimp only at f3
      refine lv_iload hx hb dX0_lastPassage_9 (lv_at hl 0 rfl) ?_
      refine lv_aload_n hx hb dX0_lastPassage_11 rfl (lv_at hl 4 rfl) ?_
      refine va_getN (D := D) (v := .int (nI (S 0 1))) hx hb hts hin_X1 hown hX.1 hP 1 rfl rfl 7 (by decide) hf_22 (fun _ h9 => h9) rfl dX0_lastPassage_12 ?_
      refine na_icmp_ge (tgt := 60) hx hb (by omega) (by omega) dX0_lastPassage_15 (by decide) (fun h_15 => ?_) (fun h_15 => ?_)
      · skip
        refine lv_iload_n hx hb dX0_lastPassage_60 rfl (lv_at hl 2 rfl) ?_
        exact W.iret (v := pI b) hx hb hr (fun t ht hW => ⟨_, rfl, by rw [← show i = S 0 1 by omega, h3], ht⟩) (fun _ h => by cases h) dX0_lastPassage_61
      · skip
        have f7 := hB.2.2.2.1 i h_15
        have fs := sAt_le (fun p => (hB.2.2.1 p).1) hZ1 (o := oZ Z) i
        refine lv_aload_n hx hb dX0_lastPassage_18 rfl (lv_at hl 4 rfl) ?_
        refine va_getN (D := D) (v := .ref (q 10)) hx hb hts hin_X1 hown hX.1 hP 1 rfl rfl 9 (by decide) hf_31 (fun _ h9 => h9) rfl dX0_lastPassage_19 ?_
        refine lv_iload hx hb dX0_lastPassage_22 (lv_at hl 0 rfl) ?_
        refine na_iald hx hb hX.1 hP 10 0 rfl rfl (by omega) (by decide) dX0_lastPassage_24 ?_
        refine lv_iconst (v := nI 2) hx hb dX0_lastPassage_25 (by decide) ?_
        refine na_idiv2 hx hb (by omega) dX0_lastPassage_26 ?_
        refine lv_iload_n hx hb dX0_lastPassage_27 rfl (lv_at hl 5 rfl) ?_
        refine na_icmp_ne (tgt := 54) hx hb (by omega) (by omega) dX0_lastPassage_28 (by decide) (fun h_28 => ?_) (fun h_28 => ?_)
        · skip
          refine lv_iinc (v := nI (i + 1)) (lv' := [(5, .int (nI (i + 1))), (4, .int (nI x)), (3, .int (pI b)), (0, .ref (q 2)), (1, .ref (q 1)), (2, .int (nI t0))]) hx hb dX0_lastPassage_54 hl (k := 0) rfl (nI_add _ 1) (by decide) rfl (fun ls hl => ?_)
          refine lv_goto (tgt := 9) hx hb dX0_lastPassage_57 (by decide) ?_
          exact ih9 (i + 1) b x (by omega) (by omega) (by first | exact lpB_y h3 h_28 h_44 | exact lpB_n h3 (by omega)) ls hl
        · skip
          refine lv_aload_n hx hb dX0_lastPassage_31 rfl (lv_at hl 3 rfl) ?_
          refine lv_aload_n hx hb dX0_lastPassage_32 rfl (lv_at hl 4 rfl) ?_
          refine lv_iload hx hb dX0_lastPassage_33 (lv_at hl 0 rfl) ?_
          refine rd_V (As := [.ref (q 1), .int (nI i)]) (rest := []) ⟨hx, hb, hml, hown, hts⟩ (k_X0_secondAt l D q k r S Z i hB hZ1 hZ0 h_15) (cwV 2 hts gX0_lastPassage_X0_secondAt rfl rfl rfl (by decide +kernel) ⟨by decide, by decide⟩) hX hP (q0 := 2) rfl rfl rfl hl.1 rfl (Nat.le_of_ble_eq_true rfl) dX0_lastPassage_35 ⟨Nat.zero_le _, Nat.zero_le _⟩ ?_
          refine lv_istore (lv' := [(6, .int (nI (sAt S (oZ Z) (Z 1) i))), (5, .int (nI i)), (4, .int (nI x)), (3, .int (pI b)), (0, .ref (q 2)), (1, .ref (q 1)), (2, .int (nI t0))]) hx hb dX0_lastPassage_38 hl (by decide) rfl (fun ls hl => ?_)
          refine lv_iload hx hb dX0_lastPassage_40 (lv_at hl 0 rfl) ?_
          refine lv_iload hx hb dX0_lastPassage_42 (lv_at hl 2 rfl) ?_
          refine na_icmp_ge (tgt := 54) hx hb (by omega) (by omega) dX0_lastPassage_44 (by decide) (fun h_44 => ?_) (fun h_44 => ?_)
          · skip
            refine lv_iinc (v := nI (i + 1)) (lv' := [(5, .int (nI (i + 1))), (6, .int (nI (sAt S (oZ Z) (Z 1) i))), (4, .int (nI x)), (3, .int (pI b)), (0, .ref (q 2)), (1, .ref (q 1)), (2, .int (nI t0))]) hx hb dX0_lastPassage_54 hl (k := 1) rfl (nI_add _ 1) (by decide) rfl (fun ls hl => ?_)
            refine lv_goto (tgt := 9) hx hb dX0_lastPassage_57 (by decide) ?_
            exact ih9 (i + 1) b x (by omega) (by omega) (by first | exact lpB_y h3 h_28 h_44 | exact lpB_n h3 (by omega)) ls (lv_sub hl [0, 2, 3, 4, 5, 6] rfl)
          · skip
            refine lv_iload hx hb dX0_lastPassage_47 (lv_at hl 1 rfl) ?_
            refine na_as (y := pI (i + 1)) (pI_s i) ?_
            refine lv_istore_n (lv' := [(3, .int (pI (i + 1))), (6, .int (nI (sAt S (oZ Z) (Z 1) i))), (5, .int (nI i)), (4, .int (nI x)), (0, .ref (q 2)), (1, .ref (q 1)), (2, .int (nI t0))]) hx hb dX0_lastPassage_49 rfl hl (by decide) rfl (fun ls hl => ?_)
            refine lv_iload hx hb dX0_lastPassage_50 (lv_at hl 1 rfl) ?_
            refine lv_istore (lv' := [(4, .int (nI (sAt S (oZ Z) (Z 1) i))), (3, .int (pI (i + 1))), (6, .int (nI (sAt S (oZ Z) (Z 1) i))), (5, .int (nI i)), (0, .ref (q 2)), (1, .ref (q 1)), (2, .int (nI t0))]) hx hb dX0_lastPassage_52 hl (by decide) rfl (fun ls hl => ?_)
            refine lv_iinc (v := nI (i + 1)) (lv' := [(5, .int (nI (i + 1))), (4, .int (nI (sAt S (oZ Z) (Z 1) i))), (3, .int (pI (i + 1))), (6, .int (nI (sAt S (oZ Z) (Z 1) i))), (0, .ref (q 2)), (1, .ref (q 1)), (2, .int (nI t0))]) hx hb dX0_lastPassage_54 hl (k := 3) rfl (nI_add _ 1) (by decide) rfl (fun ls hl => ?_)
            refine lv_goto (tgt := 9) hx hb dX0_lastPassage_57 (by decide) ?_
            exact ih9 (i + 1) ((i + 1)) ((sAt S (oZ Z) (Z 1) i)) (by omega) (by omega) (by first | exact lpB_y h3 h_28 h_44 | exact lpB_n h3 (by omega)) ls (lv_sub hl [0, 1, 2, 4, 5, 6] rfl)
  exact L9 (S 0 1 + 1) 0 0 1000000 (by omega) (by omega) rfl ls hl

set_option maxHeartbeats 4000000 in
set_option maxRecDepth 100000 in
theorem k_X0_secondsTo (l : Launch) (D : va_G) (q : Nat → Nat) (k : Nat → ClassId) (r : Nat → Nat) (S Z : Nat → Nat → Nat) (a0 : Nat) (t0 : Nat) (hB : Bd S) (hZ1 : ∀ e, Z 1 e ≤ 1000000) (hZ0 : ∀ p, Z 0 p ≤ 1) (ha : a0 < 20) (ht : t0 < 20) : Met l yX0_secondsTo wsX0_secondsTo ({ frames := 2, cells := 0, slots := 0, locals := 49 } : Room) (va_Pc [.ref (q 2), .ref (q 1), .int (nI a0), .int (nI t0)] (rB D k (wC q k r S Z))) (vp_Si (fun r => r = rI (sTo S (oZ Z) (Z 1) a0 t0))) 0 0 (fun _ => False) := by
  refine Met.ofW (cc := cX0_secondsTo) (maxL := 5) (ret := (some .int)) (by decide) rfl ?_
  intro p e s m args below meth c s₁ B hml hv
  obtain ⟨rfl, hP, hX⟩ := hv
  have hx := B.exec
  have hb := B.bytes
  have hr := B.returns
  have hts := atoms_spec (ws := wsX0_secondsTo) B.pre
  have hown : s.vm.findClass RX0 = some m.cls := findClass_of_methodNamed B.named
  have hlocks := B.notSynchronized
  have f0 := hB.1
  have f3 := lpB_ok (S := S) (o := oZ Z) (r := Z 1) (t := t0) (S 0 1)
  have hl := lv_entry ([.ref (q 2), .ref (q 1), .int (nI a0), .int (nI t0)]) (n := 5) (Nat.le_of_ble_eq_true rfl)
  rw [lg_entry_eq]
  generalize (lg_sl ([.ref (q 2), .ref (q 1), .int (nI a0), .int (nI t0)]) ++ List.replicate (5 - (lg_sl ([.ref (q 2), .ref (q 1), .int (nI a0), .int (nI t0)])).length) Slot.unset).toArray = ls at hl ⊢
  have hl : lv_has ls 5 [(0, .ref (q 2)), (1, .ref (q 1)), (2, .int (nI a0)), (3, .int (nI t0))] := hl
  refine lv_iload_n hx hb dX0_secondsTo_0 rfl (lv_at hl 2 rfl) ?_
  refine lv_iload_n hx hb dX0_secondsTo_1 rfl (lv_at hl 3 rfl) ?_
  refine na_icmp_ne (tgt := 7) hx hb (by omega) (by omega) dX0_secondsTo_2 (by decide) (fun h_2 => ?_) (fun h_2 => ?_)
  · skip
    refine lv_aload_n hx hb dX0_secondsTo_7 rfl (lv_at hl 0 rfl) ?_
    refine lv_aload_n hx hb dX0_secondsTo_8 rfl (lv_at hl 1 rfl) ?_
    refine lv_iload_n hx hb dX0_secondsTo_9 rfl (lv_at hl 3 rfl) ?_
    refine rd_V (As := [.ref (q 1), .int (nI t0)]) (rest := []) ⟨hx, hb, hml, hown, hts⟩ (k_X0_lastPassage l D q k r S Z t0 hB hZ1 hZ0 ht) (cwV 2 hts gX0_secondsTo_X0_lastPassage rfl rfl rfl (by decide +kernel) ⟨by decide, by decide⟩) hX hP (q0 := 2) rfl rfl rfl hl.1 rfl (Nat.le_of_ble_eq_true rfl) dX0_secondsTo_10 ⟨Nat.zero_le _, Nat.zero_le _⟩ ?_
    refine lv_istore (lv' := [(4, .int (pI ((lpB S (oZ Z) (Z 1) t0 (S 0 1)).1))), (0, .ref (q 2)), (1, .ref (q 1)), (2, .int (nI a0)), (3, .int (nI t0))]) hx hb dX0_secondsTo_13 hl (by decide) rfl (fun ls hl => ?_)
    refine lv_iload hx hb dX0_secondsTo_15 (lv_at hl 0 rfl) ?_
    refine lv_iconst (v := pI 0) hx hb dX0_secondsTo_17 (by decide) ?_
    refine np_icmp_ne (tgt := 25) hx hb (by omega) (by omega) dX0_secondsTo_18 (by decide) (fun h_18 => ?_) (fun h_18 => ?_)
    · skip
      refine lv_aload_n hx hb dX0_secondsTo_25 rfl (lv_at hl 1 rfl) ?_
      refine lv_aload_n hx hb dX0_secondsTo_26 rfl (lv_at hl 2 rfl) ?_
      refine lv_iload hx hb dX0_secondsTo_27 (lv_at hl 0 rfl) ?_
      refine na_as (y := nI ((lpB S (oZ Z) (Z 1) t0 (S 0 1)).1 - 1)) (pI_pos (by omega)) ?_
      refine rd_V (As := [.ref (q 1), .int (nI ((lpB S (oZ Z) (Z 1) t0 (S 0 1)).1 - 1))]) (rest := []) ⟨hx, hb, hml, hown, hts⟩ (k_X0_secondAt l D q k r S Z ((lpB S (oZ Z) (Z 1) t0 (S 0 1)).1 - 1) hB hZ1 hZ0 (by omega)) (cwV 2 hts gX0_secondsTo_X0_secondAt rfl rfl rfl (by decide +kernel) ⟨by decide, by decide⟩) hX hP (q0 := 2) rfl rfl rfl hl.1 rfl (Nat.le_of_ble_eq_true rfl) dX0_secondsTo_29 ⟨Nat.zero_le _, Nat.zero_le _⟩ ?_
      exact W.iret (v := nI (sAt S (oZ Z) (Z 1) ((lpB S (oZ Z) (Z 1) t0 (S 0 1)).1 - 1))) hx hb hr (fun t ht hW => ⟨_, rfl, by have f4 := f3.2.2.2 (by omega); rw [sTo, if_neg h_2, rI_some (by omega), f4.1], ht⟩) (fun _ h => by cases h) dX0_secondsTo_32
    · skip
      refine lv_iconst (v := pI 0) hx hb dX0_secondsTo_21 (by decide) ?_
      refine lv_goto (tgt := 32) hx hb dX0_secondsTo_22 (by decide) ?_
      exact W.iret (v := pI 0) hx hb hr (fun t ht hW => ⟨_, rfl, by rw [sTo, if_neg h_2, f3.2.2.1 h_18]; exact rI_none.symm, ht⟩) (fun _ h => by cases h) dX0_secondsTo_32
  · skip
    refine lv_iconst (v := nI 0) hx hb dX0_secondsTo_5 (by decide) ?_
    exact W.iret (v := nI 0) hx hb hr (fun t ht hW => ⟨_, rfl, by rw [sTo, if_pos h_2]; rfl, ht⟩) (fun _ h => by cases h) dX0_secondsTo_6

set_option maxHeartbeats 4000000 in
set_option maxRecDepth 100000 in
theorem k_X0_passageBefore (l : Launch) (D : va_G) (q : Nat → Nat) (k : Nat → ClassId) (r : Nat → Nat) (S Z : Nat → Nat → Nat) (e0 : Nat) (hB : Bd S) (hZ1 : ∀ e, Z 1 e ≤ 1000000) (hZ0 : ∀ p, Z 0 p ≤ 1) (he : e0 < 40) : Met l yX0_passageBefore wsX0_passageBefore ({ frames := 2, cells := 0, slots := 0, locals := 46 } : Room) (va_Pc [.ref (q 2), .ref (q 1), .int (nI e0)] (rB D k (wC q k r S Z))) (vp_Si (fun r => r = pI (pBf S (oZ Z) (Z 1) e0))) 0 0 (fun _ => False) := by
  refine Met.ofW (cc := cX0_passageBefore) (maxL := 4) (ret := (some .int)) (by decide) rfl ?_
  intro p e s m args below meth c s₁ B hml hv
  obtain ⟨rfl, hP, hX⟩ := hv
  have hx := B.exec
  have hb := B.bytes
  have hr := B.returns
  have hts := atoms_spec (ws := wsX0_passageBefore) B.pre
  have hown : s.vm.findClass RX0 = some m.cls := findClass_of_methodNamed B.named
  have hlocks := B.notSynchronized
  have hf_15 := hts (.fieldLink RX0 15 "FloorGraph$Drive" "reached" "[I") (by decide +kernel)
  have hf_22 : (Cond.fieldLinkNest "FloorGraph$Drive" 22 "FloorGraph$Floor" "passages" "I" "FloorGraph").before _ s = true := va_Nw.use (A := [.ref (q 2), .ref (q 1), .int (nI e0)].toArray) rfl (hX.2.1 ("FloorGraph$Drive", 22, "FloorGraph$Floor", "passages", "I", "FloorGraph") (by decide +kernel))
  have hf_31 : (Cond.fieldLinkNest "FloorGraph$Drive" 31 "FloorGraph$Floor" "goals" "[I" "FloorGraph").before _ s = true := va_Nw.use (A := [.ref (q 2), .ref (q 1), .int (nI e0)].toArray) rfl (hX.2.1 ("FloorGraph$Drive", 31, "FloorGraph$Floor", "goals", "[I", "FloorGraph") (by decide +kernel))
  have hin_X0 : ∀ w ∈ u_ws RX0 TX0 3, w ∈ wsX0_passageBefore := by decide +kernel
  have hin_X1 : ∀ w ∈ u_ws RX1 TX1 14, w ∈ wsX0_passageBefore := by decide +kernel
  have f0 := hB.1
  have fr := hZ1 e0
  have ff0 : fl e0 < 2 * 20 := fl_lt (by omega)
  have hl := lv_entry ([.ref (q 2), .ref (q 1), .int (nI e0)]) (n := 4) (Nat.le_of_ble_eq_true rfl)
  rw [lg_entry_eq]
  generalize (lg_sl ([.ref (q 2), .ref (q 1), .int (nI e0)]) ++ List.replicate (4 - (lg_sl ([.ref (q 2), .ref (q 1), .int (nI e0)])).length) Slot.unset).toArray = ls at hl ⊢
  have hl : lv_has ls 4 [(0, .ref (q 2)), (1, .ref (q 1)), (2, .int (nI e0))] := hl
  refine lv_aload_n hx hb dX0_passageBefore_0 rfl (lv_at hl 0 rfl) ?_
  refine va_get (D := D) (v := .ref (q 16)) hx hb hts hin_X0 hown hX.1 hP 2 rfl rfl 1 (by decide) hf_15 (fun _ h9 => h9) rfl dX0_passageBefore_1 ?_
  refine lv_iload_n hx hb dX0_passageBefore_4 rfl (lv_at hl 2 rfl) ?_
  refine na_iald hx hb hX.1 hP 16 0 rfl rfl (by omega) (by decide) dX0_passageBefore_5 ?_
  refine na_if_ne (tgt := 11) hx hb (by omega) dX0_passageBefore_6 (by decide) (fun h_6 => ?_) (fun h_6 => ?_)
  · skip
    refine lv_iconst (v := nI 0) hx hb dX0_passageBefore_11 (by decide) ?_
    refine lv_istore_n (lv' := [(3, .int (nI 0)), (0, .ref (q 2)), (1, .ref (q 1)), (2, .int (nI e0))]) hx hb dX0_passageBefore_12 rfl hl (by decide) rfl (fun ls hl => ?_)
    have L13 : ∀ (n13 : Nat) (i : Nat), (S 0 1 < i + n13) → (h1 : i ≤ S 0 1) → (h3 : ff (fun p => decide (S 8 p = fl e0 ∧ sBh S (oZ Z) (Z 1) p = Z 1 e0)) i = 0) → ∀ (ls : Array Slot), lv_has ls 4 [(3, .int (nI i)), (0, .ref (q 2)), (1, .ref (q 1)), (2, .int (nI e0))] → W p l e (headSpec wsX0_passageBefore ({ frames := 2, cells := 0, slots := 0, locals := 46 } : Room)).room s m [.ref (q 2), .ref (q 1), .int (nI e0)].toArray below meth c s.heap [] 0 0 (MQ below (vp_Si (fun r => r = pI (pBf S (oZ Z) (Z 1) e0))) [.ref (q 2), .ref (q 1), .int (nI e0)].toArray s 0 0 (fun _ => False)) (F0 m 13 ls []) := by
      intro n13
      induction n13 with
      | zero =>
        intro i hfuel13 h1 h3 ls hl
        exact absurd hfuel13 (by omega)
      | succ n13 ih13 =>
        intro i hfuel13 h1 h3 ls hl
        refine lv_iload_n hx hb dX0_passageBefore_13 rfl (lv_at hl 0 rfl) ?_
        refine lv_aload_n hx hb dX0_passageBefore_14 rfl (lv_at hl 2 rfl) ?_
        refine va_getN (D := D) (v := .int (nI (S 0 1))) hx hb hts hin_X1 hown hX.1 hP 1 rfl rfl 7 (by decide) hf_22 (fun _ h9 => h9) rfl dX0_passageBefore_15 ?_
        refine na_icmp_ge (tgt := 56) hx hb (by omega) (by omega) dX0_passageBefore_18 (by decide) (fun h_18 => ?_) (fun h_18 => ?_)
        · skip
          refine lv_iconst (v := pI 0) hx hb dX0_passageBefore_56 (by decide) ?_
          exact W.iret (v := pI 0) hx hb hr (fun t ht hW => ⟨_, rfl, by first | rw [pBf, if_pos h_6] | rw [pBf, if_neg (by omega), ← show i = S 0 1 by omega, h3], ht⟩) (fun _ h => by cases h) dX0_passageBefore_57
        · skip
          have f7 := hB.2.2.2.1 i h_18
          have fs := sBh_le (fun p => (hB.2.2.1 p).1) (fun i => (hB.2.1 i).2.1) hZ1 (o := oZ Z) i
          refine lv_aload_n hx hb dX0_passageBefore_21 rfl (lv_at hl 2 rfl) ?_
          refine va_getN (D := D) (v := .ref (q 10)) hx hb hts hin_X1 hown hX.1 hP 1 rfl rfl 9 (by decide) hf_31 (fun _ h9 => h9) rfl dX0_passageBefore_22 ?_
          refine lv_iload_n hx hb dX0_passageBefore_25 rfl (lv_at hl 0 rfl) ?_
          refine na_iald hx hb hX.1 hP 10 0 rfl rfl (by omega) (by decide) dX0_passageBefore_26 ?_
          refine lv_iload_n hx hb dX0_passageBefore_27 rfl (lv_at hl 3 rfl) ?_
          refine lv_iconst (v := nI 1) hx hb dX0_passageBefore_28 (by decide) ?_
          refine na_ixor1 hx hb (by omega) dX0_passageBefore_29 ?_
          refine na_icmp_ne (tgt := 50) hx hb (by omega) (by omega) dX0_passageBefore_30 (by decide) (fun h_30 => ?_) (fun h_30 => ?_)
          · skip
            refine lv_iinc (v := nI (i + 1)) (lv' := [(3, .int (nI (i + 1))), (0, .ref (q 2)), (1, .ref (q 1)), (2, .int (nI e0))]) hx hb dX0_passageBefore_50 hl (k := 0) rfl (nI_add _ 1) (by decide) rfl (fun ls hl => ?_)
            refine lv_goto (tgt := 13) hx hb dX0_passageBefore_53 (by decide) ?_
            exact ih13 (i + 1) (by omega) (by omega) (ff_s h3 (by simp; omega)) ls hl
          · skip
            refine lv_aload_n hx hb dX0_passageBefore_33 rfl (lv_at hl 1 rfl) ?_
            refine lv_aload_n hx hb dX0_passageBefore_34 rfl (lv_at hl 2 rfl) ?_
            refine lv_iload_n hx hb dX0_passageBefore_35 rfl (lv_at hl 0 rfl) ?_
            refine rd_V (As := [.ref (q 1), .int (nI i)]) (rest := []) ⟨hx, hb, hml, hown, hts⟩ (k_X0_secondBehind l D q k r S Z i hB hZ1 hZ0 h_18) (cwV 2 hts gX0_passageBefore_X0_secondBehind rfl rfl rfl (by decide +kernel) ⟨by decide, by decide⟩) hX hP (q0 := 2) rfl rfl rfl hl.1 rfl (Nat.le_of_ble_eq_true rfl) dX0_passageBefore_36 ⟨Nat.zero_le _, Nat.zero_le _⟩ ?_
            refine lv_aload_n hx hb dX0_passageBefore_39 rfl (lv_at hl 1 rfl) ?_
            refine va_get (D := D) (v := .ref (q 16)) hx hb hts hin_X0 hown hX.1 hP 2 rfl rfl 1 (by decide) hf_15 (fun _ h9 => h9) rfl dX0_passageBefore_40 ?_
            refine lv_iload_n hx hb dX0_passageBefore_43 rfl (lv_at hl 3 rfl) ?_
            refine na_iald hx hb hX.1 hP 16 0 rfl rfl (by omega) (by decide) dX0_passageBefore_44 ?_
            refine na_icmp_ne (tgt := 50) hx hb (by omega) (by omega) dX0_passageBefore_45 (by decide) (fun h_45 => ?_) (fun h_45 => ?_)
            · skip
              refine lv_iinc (v := nI (i + 1)) (lv' := [(3, .int (nI (i + 1))), (0, .ref (q 2)), (1, .ref (q 1)), (2, .int (nI e0))]) hx hb dX0_passageBefore_50 hl (k := 0) rfl (nI_add _ 1) (by decide) rfl (fun ls hl => ?_)
              refine lv_goto (tgt := 13) hx hb dX0_passageBefore_53 (by decide) ?_
              exact ih13 (i + 1) (by omega) (by omega) (ff_s h3 (by simp; omega)) ls hl
            · skip
              refine lv_iload_n hx hb dX0_passageBefore_48 rfl (lv_at hl 0 rfl) ?_
              exact W.iret (v := nI i) hx hb hr (fun t ht hW => ⟨_, rfl, by rw [pBf, if_neg (by omega), ff_y h3 (by simp; omega) _ h_18]; exact pI_s i, ht⟩) (fun _ h => by cases h) dX0_passageBefore_49
    exact L13 (S 0 1 + 1) 0 (by omega) (by omega) rfl ls hl
  · skip
    refine lv_iconst (v := pI 0) hx hb dX0_passageBefore_9 (by decide) ?_
    exact W.iret (v := pI 0) hx hb hr (fun t ht hW => ⟨_, rfl, by first | rw [pBf, if_pos h_6] | rw [pBf, if_neg (by omega), ← show i = S 0 1 by omega, h3], ht⟩) (fun _ h => by cases h) dX0_passageBefore_10
