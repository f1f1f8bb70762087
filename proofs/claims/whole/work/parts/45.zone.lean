set_option maxHeartbeats 4000000 in
set_option maxRecDepth 100000 in
theorem k_J6_bitCount_0f7a4 (l : Launch) (v0 : Nat) (hv : v0 < 2 ^ 24) : Met l yJ6_bitCount_0f7a4 wsJ6_bitCount_0f7a4 ({ frames := 0, cells := 0, slots := 0, locals := 0 } : Room) (va_Pc [.int (nI v0)] (fun _ => True)) (vp_Si (fun r => r = nI (pop v0))) 0 0 (fun _ => False) := by
  refine Met.ofW (cc := cJ6_bitCount_0f7a4) (maxL := 1) (ret := (some .int)) (by decide) rfl ?_
  intro p e s m args below meth c s₁ B hml hv
  obtain ⟨rfl, -⟩ := hv
  have hx := B.exec
  have hb := B.bytes
  have hr := B.returns
  have hts := atoms_spec (ws := wsJ6_bitCount_0f7a4) B.pre
  have hown : s.vm.findClass RJ6 = some m.cls := findClass_of_methodNamed B.named
  have hlocks := B.notSynchronized
  have q1 : (v0 / 2 &&& 1431655765) ≤ v0 / 2 := Nat.and_le_left
  have q2 : (b1 v0 &&& 858993459) ≤ b1 v0 := Nat.and_le_left
  have q3 : (b1 v0 / 4 &&& 858993459) ≤ b1 v0 / 4 := Nat.and_le_left
  have q4 : b1 v0 ≤ v0 := Nat.sub_le _ _
  have q5 : b2 (b1 v0) = (b1 v0 &&& 858993459) + (b1 v0 / 4 &&& 858993459) := rfl
  have q6 : b3 (b2 (b1 v0)) ≤ b2 (b1 v0) + b2 (b1 v0) / 16 := Nat.and_le_left
  have hl := lv_entry ([.int (nI v0)]) (n := 1) (Nat.le_of_ble_eq_true rfl)
  rw [lg_entry_eq]
  generalize (lg_sl ([.int (nI v0)]) ++ List.replicate (1 - (lg_sl ([.int (nI v0)])).length) Slot.unset).toArray = ls at hl ⊢
  have hl : lv_has ls 1 [(0, .int (nI v0))] := hl
  refine lv_iload_n hx hb dJ6_bitCount_0f7a4_0 rfl (lv_at hl 0 rfl) ?_
  refine lv_iload_n hx hb dJ6_bitCount_0f7a4_1 rfl (lv_at hl 0 rfl) ?_
  refine lv_iconst (v := nI 1) hx hb dJ6_bitCount_0f7a4_2 (by decide) ?_
  refine lv_iushr (v := nI (v0 / 2)) hx hb dJ6_bitCount_0f7a4_3 (pk_ushrN (by omega) _ 1 (by decide)) ?_
  refine lv_ldcw (v := nI 1431655765) hx hb hown (hts (.constant RJ6 265 (1431655765)) (by decide +kernel)) dJ6_bitCount_0f7a4_4 ?_
  refine lv_iand hx hb dJ6_bitCount_0f7a4_7 ?_
  refine na_as (y := nI ((v0 / 2) &&& 1431655765)) (nI_and (by omega) (by decide)) ?_
  refine na_isub hx hb (by omega) dJ6_bitCount_0f7a4_8 ?_
  refine na_as (y := nI (b1 v0)) rfl ?_
  refine lv_istore_n (lv' := [(0, .int (nI (b1 v0)))]) hx hb dJ6_bitCount_0f7a4_9 rfl hl (by decide) rfl (fun ls hl => ?_)
  refine lv_iload_n hx hb dJ6_bitCount_0f7a4_10 rfl (lv_at hl 0 rfl) ?_
  refine lv_ldcw (v := nI 858993459) hx hb hown (hts (.constant RJ6 266 (858993459)) (by decide +kernel)) dJ6_bitCount_0f7a4_11 ?_
  refine lv_iand hx hb dJ6_bitCount_0f7a4_14 ?_
  refine na_as (y := nI ((b1 v0) &&& 858993459)) (nI_and (by omega) (by decide)) ?_
  refine lv_iload_n hx hb dJ6_bitCount_0f7a4_15 rfl (lv_at hl 0 rfl) ?_
  refine lv_iconst (v := nI 2) hx hb dJ6_bitCount_0f7a4_16 (by decide) ?_
  refine lv_iushr (v := nI ((b1 v0) / 4)) hx hb dJ6_bitCount_0f7a4_17 (pk_ushrN (by omega) _ 2 (by decide)) ?_
  refine lv_ldcw (v := nI 858993459) hx hb hown (hts (.constant RJ6 266 (858993459)) (by decide +kernel)) dJ6_bitCount_0f7a4_18 ?_
  refine lv_iand hx hb dJ6_bitCount_0f7a4_21 ?_
  refine na_as (y := nI (((b1 v0) / 4) &&& 858993459)) (nI_and (by omega) (by decide)) ?_
  refine na_iadd hx hb dJ6_bitCount_0f7a4_22 ?_
  refine na_as (y := nI (b2 (b1 v0))) rfl ?_
  refine lv_istore_n (lv' := [(0, .int (nI (b2 (b1 v0))))]) hx hb dJ6_bitCount_0f7a4_23 rfl hl (by decide) rfl (fun ls hl => ?_)
  refine lv_iload_n hx hb dJ6_bitCount_0f7a4_24 rfl (lv_at hl 0 rfl) ?_
  refine lv_iload_n hx hb dJ6_bitCount_0f7a4_25 rfl (lv_at hl 0 rfl) ?_
  refine lv_iconst (v := nI 4) hx hb dJ6_bitCount_0f7a4_26 (by decide) ?_
  refine lv_iushr (v := nI ((b2 (b1 v0)) / 16)) hx hb dJ6_bitCount_0f7a4_27 (pk_ushrN (by omega) _ 4 (by decide)) ?_
  refine na_iadd hx hb dJ6_bitCount_0f7a4_28 ?_
  refine lv_ldcw (v := nI 252645135) hx hb hown (hts (.constant RJ6 267 (252645135)) (by decide +kernel)) dJ6_bitCount_0f7a4_29 ?_
  refine lv_iand hx hb dJ6_bitCount_0f7a4_32 ?_
  refine na_as (y := nI (((b2 (b1 v0)) + ((b2 (b1 v0)) / 16)) &&& 252645135)) (nI_and (by omega) (by decide)) ?_
  refine na_as (y := nI (b3 (b2 (b1 v0)))) rfl ?_
  refine lv_istore_n (lv' := [(0, .int (nI (b3 (b2 (b1 v0)))))]) hx hb dJ6_bitCount_0f7a4_33 rfl hl (by decide) rfl (fun ls hl => ?_)
  refine lv_iload_n hx hb dJ6_bitCount_0f7a4_34 rfl (lv_at hl 0 rfl) ?_
  refine lv_iload_n hx hb dJ6_bitCount_0f7a4_35 rfl (lv_at hl 0 rfl) ?_
  refine lv_bipush (v := nI 8) hx hb dJ6_bitCount_0f7a4_36 (by decide) ?_
  refine lv_iushr (v := nI ((b3 (b2 (b1 v0))) / 256)) hx hb dJ6_bitCount_0f7a4_38 (pk_ushrN (by omega) _ 8 (by decide)) ?_
  refine na_iadd hx hb dJ6_bitCount_0f7a4_39 ?_
  refine lv_istore_n (lv' := [(0, .int (nI ((b3 (b2 (b1 v0))) + ((b3 (b2 (b1 v0))) / 256))))]) hx hb dJ6_bitCount_0f7a4_40 rfl hl (by decide) rfl (fun ls hl => ?_)
  refine lv_iload_n hx hb dJ6_bitCount_0f7a4_41 rfl (lv_at hl 0 rfl) ?_
  refine lv_iload_n hx hb dJ6_bitCount_0f7a4_42 rfl (lv_at hl 0 rfl) ?_
  refine lv_bipush (v := nI 16) hx hb dJ6_bitCount_0f7a4_43 (by decide) ?_
  refine lv_iushr (v := nI (((b3 (b2 (b1 v0))) + ((b3 (b2 (b1 v0))) / 256)) / 65536)) hx hb dJ6_bitCount_0f7a4_45 (pk_ushrN (by omega) _ 16 (by decide)) ?_
  refine na_iadd hx hb dJ6_bitCount_0f7a4_46 ?_
  refine lv_istore_n (lv' := [(0, .int (nI (((b3 (b2 (b1 v0))) + ((b3 (b2 (b1 v0))) / 256)) + (((b3 (b2 (b1 v0))) + ((b3 (b2 (b1 v0))) / 256)) / 65536))))]) hx hb dJ6_bitCount_0f7a4_47 rfl hl (by decide) rfl (fun ls hl => ?_)
  refine lv_iload_n hx hb dJ6_bitCount_0f7a4_48 rfl (lv_at hl 0 rfl) ?_
  refine lv_bipush (v := nI 63) hx hb dJ6_bitCount_0f7a4_49 (by decide) ?_
  refine lv_iand hx hb dJ6_bitCount_0f7a4_51 ?_
  refine na_as (y := nI ((((b3 (b2 (b1 v0))) + ((b3 (b2 (b1 v0))) / 256)) + (((b3 (b2 (b1 v0))) + ((b3 (b2 (b1 v0))) / 256)) / 65536)) &&& 63)) (nI_and (by omega) (by decide)) ?_
  exact W.iret (v := nI ((((b3 (b2 (b1 v0))) + ((b3 (b2 (b1 v0))) / 256)) + (((b3 (b2 (b1 v0))) + ((b3 (b2 (b1 v0))) / 256)) / 65536)) &&& 63)) hx hb hr (fun t ht hW => ⟨_, rfl, congrArg nI (bc_pop hv), ht⟩) (fun _ h => by cases h) dJ6_bitCount_0f7a4_52

set_option maxHeartbeats 4000000 in
set_option maxRecDepth 100000 in
theorem k_X1_setZone (l : Launch) (D : va_G) (q : Nat → Nat) (k : Nat → ClassId) (r : Nat → Nat) (S Z : Nat → Nat → Nat) (sz : Nat) (p0 : Nat) (h0 : Nat) (b : Bool) (hB : Bd S) (hp : p0 < 20) (hh : h0 < 24) : Met l yX1_setZone wsX1_setZone ({ frames := 1, cells := 0, slots := 0, locals := 20 } : Room) (va_Pc [.ref (q 1), .int (nI p0), .int (nI h0), .int (nI (bN b))] (wB D k (wC q k r S Z) sz)) (va_Qi (fun (r : Int32) (u : (Nat → Nat → Nat) × (Nat → Nat → Nat)) => r = nI (pop (wb (S 6 p0) h0 b)) ∧ u.1 = up2 S 6 p0 (wb (S 6 p0) h0 b) ∧ u.2 = Z) (fun u t => wE D (va_A (wC q k r S Z) sz) (wC q k r u.1 u.2) t) (va_A (wC q k r S Z) sz)) 0 0 (va_A (wC q k r S Z) sz) := by
  refine Met.ofW (cc := cX1_setZone) (maxL := 5) (ret := (some .int)) (by decide) rfl ?_
  intro p e s m args below meth c s₁ B hml hv
  obtain ⟨rfl, hsz, hP, hX, hD0⟩ := hv
  have hx := B.exec
  have hb := B.bytes
  have hr := B.returns
  have hts := atoms_spec (ws := wsX1_setZone) B.pre
  have hown : s.vm.findClass RX1 = some m.cls := findClass_of_methodNamed B.named
  have hlocks := B.notSynchronized
  subst hsz
  have hD := hD0.self (sz := s.heap.size)
  generalize hAe : va_A (wC q k r S Z) s.heap.size = A at hD ⊢
  have hA : ∀ q : Nat, s.heap.size ≤ q → A q := fun q h => by rw [← hAe]; exact Or.inr h
  have hS : va_S A s.heap s.heap [] := va_S.rf
  have hP : va_P D vwCl (wC q k r S Z) s.heap := hP
  have hf_28 := hts (.fieldLink RX1 28 "FloorGraph$Floor" "barredHours" "[I") (by decide +kernel)
  have hin_X1 : ∀ w ∈ u_ws RX1 TX1 14, w ∈ wsX1_setZone := by decide +kernel
  have g6 := (hB.2.1 p0).2.2.2.2.2
  have gw := wb_ok b g6 hh
  have hl := lv_entry ([.ref (q 1), .int (nI p0), .int (nI h0), .int (nI (bN b))]) (n := 5) (Nat.le_of_ble_eq_true rfl)
  rw [lg_entry_eq]
  generalize (lg_sl ([.ref (q 1), .int (nI p0), .int (nI h0), .int (nI (bN b))]) ++ List.replicate (5 - (lg_sl ([.ref (q 1), .int (nI p0), .int (nI h0), .int (nI (bN b))])).length) Slot.unset).toArray = ls at hl ⊢
  have hl : lv_has ls 5 [(0, .ref (q 1)), (1, .int (nI p0)), (2, .int (nI h0)), (3, .int (nI (bN b)))] := hl
  refine lv_iconst (v := nI 1) hx hb dX1_setZone_0 (by decide) ?_
  refine lv_iload_n hx hb dX1_setZone_1 rfl (lv_at hl 2 rfl) ?_
  refine lv_ishl hx hb dX1_setZone_2 ?_
  refine lv_istore (lv' := [(4, .int (nI 1 <<< (nI h0 &&& 31))), (0, .ref (q 1)), (1, .int (nI p0)), (2, .int (nI h0)), (3, .int (nI (bN b)))]) hx hb dX1_setZone_3 hl (by decide) rfl (fun ls hl => ?_)
  refine lv_iload_n hx hb dX1_setZone_5 rfl (lv_at hl 4 rfl) ?_
  refine na_if_eq (tgt := 23) hx hb (bN_lt _) dX1_setZone_6 (by decide) (fun h_6 => ?_) (fun h_6 => ?_)
  · skip
    refine lv_aload_n hx hb dX1_setZone_23 rfl (lv_at hl 1 rfl) ?_
    refine va_get (D := D) (v := .ref (q 8)) hx hb hts hin_X1 hown hX.1 hP 1 rfl rfl 6 (by decide) hf_28 (fun _ h9 => h9) rfl dX1_setZone_24 ?_
    refine lv_iload_n hx hb dX1_setZone_27 rfl (lv_at hl 2 rfl) ?_
    refine lv_dup2_11 hx hb dX1_setZone_28 rfl rfl ?_
    refine na_iald hx hb hX.1 hP 8 0 rfl rfl (by omega) (by decide) dX1_setZone_29 ?_
    refine lv_iload hx hb dX1_setZone_30 (lv_at hl 0 rfl) ?_
    refine lv_iconst (v := pI 0) hx hb dX1_setZone_32 (by decide) ?_
    refine lv_ixor hx hb dX1_setZone_33 ?_
    refine lv_iand hx hb dX1_setZone_34 ?_
    refine na_as (y := nI (wb (S 6 p0) h0 b)) (by rw [← gw.1, wbI, if_neg (bN_no h_6)]) ?_
    refine na_iast hx hb hX.1 hP hD hS 8 0 rfl rfl (by omega) (by decide) (upd_enc nI _ _ _) dX1_setZone_35 (fun H locs hP hD hS => ?_)
    have hP : va_P D vwCl (wC q k r (up2 S 6 p0 (wb (S 6 p0) h0 b)) Z) H := sP_C8 hP
    have hD : va_D A (wC q k r (up2 S 6 p0 (wb (S 6 p0) h0 b)) Z) := sD_C8 hD
    refine lv_aload_n hx hb dX1_setZone_36 rfl (lv_at hl 1 rfl) ?_
    refine va_get (D := D) (v := .ref (q 8)) hx hb hts hin_X1 hown hX.1 hP 1 rfl rfl 6 (by decide) hf_28 (fun _ h9 => h9) rfl dX1_setZone_37 ?_
    refine lv_iload_n hx hb dX1_setZone_40 rfl (lv_at hl 2 rfl) ?_
    refine na_iald hx hb hX.1 hP 8 0 rfl rfl (by omega) (by decide) dX1_setZone_41 ?_
    refine na_as (y := nI ((up2 S 6 p0 (wb (S 6 p0) h0 b)) 6 p0)) rfl ?_
    refine na_as (y := nI (wb (S 6 p0) h0 b)) (congrArg nI (up2_same _ _ _ _)) ?_
    refine rd_S (As := [.int (nI (wb (S 6 p0) h0 b))]) (rest := []) ⟨hx, hb, hml, hown, hts⟩ (k_J6_bitCount_0f7a4 l (wb (S 6 p0) h0 b) gw.2) (va_cwS 1 hts gX1_setZone_J6_bitCount_0f7a4 rfl rfl rfl (by decide +kernel) ⟨by decide, by decide⟩) rfl hl.1 rfl (Nat.le_of_ble_eq_true rfl) dX1_setZone_42 ⟨Nat.zero_le _, Nat.zero_le _⟩ ?_
    exact W.iret (v := nI (pop (wb (S 6 p0) h0 b))) hx hb hr (fun t ht hW => ⟨⟨_, ((up2 S 6 p0 (wb (S 6 p0) h0 b)), Z), rfl, ⟨rfl, rfl, rfl⟩, by rw [ht]; exact hP, hD⟩, hS.F ht⟩) hS.2.2 dX1_setZone_45
  · skip
    refine lv_aload_n hx hb dX1_setZone_9 rfl (lv_at hl 1 rfl) ?_
    refine va_get (D := D) (v := .ref (q 8)) hx hb hts hin_X1 hown hX.1 hP 1 rfl rfl 6 (by decide) hf_28 (fun _ h9 => h9) rfl dX1_setZone_10 ?_
    refine lv_iload_n hx hb dX1_setZone_13 rfl (lv_at hl 2 rfl) ?_
    refine lv_dup2_11 hx hb dX1_setZone_14 rfl rfl ?_
    refine na_iald hx hb hX.1 hP 8 0 rfl rfl (by omega) (by decide) dX1_setZone_15 ?_
    refine lv_iload hx hb dX1_setZone_16 (lv_at hl 0 rfl) ?_
    refine lv_ior hx hb dX1_setZone_18 ?_
    refine na_as (y := nI (wb (S 6 p0) h0 b)) (by rw [← gw.1, wbI, if_pos (bN_pos h_6)]) ?_
    refine na_iast hx hb hX.1 hP hD hS 8 0 rfl rfl (by omega) (by decide) (upd_enc nI _ _ _) dX1_setZone_19 (fun H locs hP hD hS => ?_)
    have hP : va_P D vwCl (wC q k r (up2 S 6 p0 (wb (S 6 p0) h0 b)) Z) H := sP_C8 hP
    have hD : va_D A (wC q k r (up2 S 6 p0 (wb (S 6 p0) h0 b)) Z) := sD_C8 hD
    refine lv_goto (tgt := 36) hx hb dX1_setZone_20 (by decide) ?_
    refine lv_aload_n hx hb dX1_setZone_36 rfl (lv_at hl 1 rfl) ?_
    refine va_get (D := D) (v := .ref (q 8)) hx hb hts hin_X1 hown hX.1 hP 1 rfl rfl 6 (by decide) hf_28 (fun _ h9 => h9) rfl dX1_setZone_37 ?_
    refine lv_iload_n hx hb dX1_setZone_40 rfl (lv_at hl 2 rfl) ?_
    refine na_iald hx hb hX.1 hP 8 0 rfl rfl (by omega) (by decide) dX1_setZone_41 ?_
    refine na_as (y := nI ((up2 S 6 p0 (wb (S 6 p0) h0 b)) 6 p0)) rfl ?_
    refine na_as (y := nI (wb (S 6 p0) h0 b)) (congrArg nI (up2_same _ _ _ _)) ?_
    refine rd_S (As := [.int (nI (wb (S 6 p0) h0 b))]) (rest := []) ⟨hx, hb, hml, hown, hts⟩ (k_J6_bitCount_0f7a4 l (wb (S 6 p0) h0 b) gw.2) (va_cwS 1 hts gX1_setZone_J6_bitCount_0f7a4 rfl rfl rfl (by decide +kernel) ⟨by decide, by decide⟩) rfl hl.1 rfl (Nat.le_of_ble_eq_true rfl) dX1_setZone_42 ⟨Nat.zero_le _, Nat.zero_le _⟩ ?_
    exact W.iret (v := nI (pop (wb (S 6 p0) h0 b))) hx hb hr (fun t ht hW => ⟨⟨_, ((up2 S 6 p0 (wb (S 6 p0) h0 b)), Z), rfl, ⟨rfl, rfl, rfl⟩, by rw [ht]; exact hP, hD⟩, hS.F ht⟩) hS.2.2 dX1_setZone_45
