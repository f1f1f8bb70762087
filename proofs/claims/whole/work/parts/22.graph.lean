set_option maxHeartbeats 4000000 in
set_option maxRecDepth 100000 in
theorem k_X2_hasCharger (l : Launch) (D : va_G) (q : Nat → Nat) (k : Nat → ClassId) (r : Nat → Nat) (S Z : Nat → Nat → Nat) (p0 : Nat) (hB : Bd S) (hp : p0 < 20) : Met l yX2_hasCharger wsX2_hasCharger ({ frames := 0, cells := 0, slots := 0, locals := 0 } : Room) (va_Pc [.ref (q 0), .int (nI p0)] (rB D k (wC q k r S Z))) (vp_Si (fun r => r = nI (bN (anyB (fun j => decide (S 12 j = p0)) (S 0 3))))) 0 0 (fun _ => False) := by
  refine Met.ofW (cc := cX2_hasCharger) (maxL := 3) (ret := (some .boolean)) (by decide) rfl ?_
  intro p e s m args below meth c s₁ B hml hv
  obtain ⟨rfl, hP, hX⟩ := hv
  have hx := B.exec
  have hb := B.bytes
  have hr := B.returns
  have hts := atoms_spec (ws := wsX2_hasCharger) B.pre
  have hown : s.vm.findClass RX2 = some m.cls := findClass_of_methodNamed B.named
  have hlocks := B.notSynchronized
  have hf_27 := hts (.fieldLink RX2 27 "FloorGraph" "chargerPieces" "[I") (by decide +kernel)
  have hf_158 := hts (.fieldLink RX2 158 "FloorGraph" "chargers" "I") (by decide +kernel)
  have hin_X2 : ∀ w ∈ u_ws RX2 TX2 12, w ∈ wsX2_hasCharger := by decide +kernel
  have f0 := hB.1
  have hl := lv_entry ([.ref (q 0), .int (nI p0)]) (n := 3) (Nat.le_of_ble_eq_true rfl)
  rw [lg_entry_eq]
  generalize (lg_sl ([.ref (q 0), .int (nI p0)]) ++ List.replicate (3 - (lg_sl ([.ref (q 0), .int (nI p0)])).length) Slot.unset).toArray = ls at hl ⊢
  have hl : lv_has ls 3 [(0, .ref (q 0)), (1, .int (nI p0))] := hl
  refine lv_iconst (v := nI 0) hx hb dX2_hasCharger_0 (by decide) ?_
  refine lv_istore_n (lv' := [(2, .int (nI 0)), (0, .ref (q 0)), (1, .int (nI p0))]) hx hb dX2_hasCharger_1 rfl hl (by decide) rfl (fun ls hl => ?_)
  have L2 : ∀ (n2 : Nat) (i : Nat), (S 0 3 < i + n2) → (h1 : i ≤ S 0 3) → (h3 : anyB (fun j => decide (S 12 j = p0)) i = false) → ∀ (ls : Array Slot), lv_has ls 3 [(2, .int (nI i)), (0, .ref (q 0)), (1, .int (nI p0))] → W p l e (headSpec wsX2_hasCharger ({ frames := 0, cells := 0, slots := 0, locals := 0 } : Room)).room s m [.ref (q 0), .int (nI p0)].toArray below meth c s.heap [] 0 0 (MQ below (vp_Si (fun r => r = nI (bN (anyB (fun j => decide (S 12 j = p0)) (S 0 3))))) [.ref (q 0), .int (nI p0)].toArray s 0 0 (fun _ => False)) (F0 m 2 ls []) := by
    intro n2
    induction n2 with
    | zero =>
      intro i hfuel2 h1 h3 ls hl
      exact absurd hfuel2 (by omega)
    | succ n2 ih2 =>
      intro i hfuel2 h1 h3 ls hl
      have f1 := hB.2.2.2.2 i
      refine lv_iload_n hx hb dX2_hasCharger_2 rfl (lv_at hl 0 rfl) ?_
      refine lv_aload_n hx hb dX2_hasCharger_3 rfl (lv_at hl 1 rfl) ?_
      refine va_get (D := D) (v := .int (nI (S 0 3))) hx hb hts hin_X2 hown hX.1 hP 0 rfl rfl 5 (by decide) hf_158 (fun _ h9 => h9) rfl dX2_hasCharger_4 ?_
      refine na_icmp_ge (tgt := 28) hx hb (by omega) (by omega) dX2_hasCharger_7 (by decide) (fun h_7 => ?_) (fun h_7 => ?_)
      · skip
        refine lv_iconst (v := nI 0) hx hb dX2_hasCharger_28 (by decide) ?_
        exact W.zret (v := nI 0) hx hb hr (nar_b _ (by first | decide | omega | exact bN_le _)) (fun t ht hW => ⟨_, rfl, bN0 (by rw [← show i = S 0 3 by omega]; exact h3), ht⟩) (fun _ h => by cases h) dX2_hasCharger_29
      · skip
        refine lv_aload_n hx hb dX2_hasCharger_10 rfl (lv_at hl 1 rfl) ?_
        refine va_get (D := D) (v := .ref (q 19)) hx hb hts hin_X2 hown hX.1 hP 0 rfl rfl 4 (by decide) hf_27 (fun _ h9 => h9) rfl dX2_hasCharger_11 ?_
        refine lv_iload_n hx hb dX2_hasCharger_14 rfl (lv_at hl 0 rfl) ?_
        refine na_iald hx hb hX.1 hP 19 0 rfl rfl (by omega) (by decide) dX2_hasCharger_15 ?_
        refine lv_iload_n hx hb dX2_hasCharger_16 rfl (lv_at hl 2 rfl) ?_
        refine na_icmp_ne (tgt := 22) hx hb (by omega) (by omega) dX2_hasCharger_17 (by decide) (fun h_17 => ?_) (fun h_17 => ?_)
        · skip
          refine lv_iinc (v := nI (i + 1)) (lv' := [(2, .int (nI (i + 1))), (0, .ref (q 0)), (1, .int (nI p0))]) hx hb dX2_hasCharger_22 hl (k := 0) rfl (nI_add _ 1) (by decide) rfl (fun ls hl => ?_)
          refine lv_goto (tgt := 2) hx hb dX2_hasCharger_25 (by decide) ?_
          exact ih2 (i + 1) (by omega) (by omega) (anyB_s h3 (by simp; omega)) ls hl
        · skip
          refine lv_iconst (v := nI 1) hx hb dX2_hasCharger_20 (by decide) ?_
          exact W.zret (v := nI 1) hx hb hr (nar_b _ (by first | decide | omega | exact bN_le _)) (fun t ht hW => ⟨_, rfl, bN1 (anyB_t (i := i) (by simp; omega) (by omega)), ht⟩) (fun _ h => by cases h) dX2_hasCharger_21
  exact L2 (S 0 3 + 1) 0 (by omega) (by omega) rfl ls hl

set_option maxHeartbeats 4000000 in
set_option maxRecDepth 100000 in
theorem k_X2_rows (l : Launch) (D : va_G) (q : Nat → Nat) (k : Nat → ClassId) (r : Nat → Nat) (S Z : Nat → Nat → Nat) : Met l yX2_rows wsX2_rows ({ frames := 0, cells := 0, slots := 0, locals := 0 } : Room) (va_Pc [.ref (q 0)] (rB D k (wC q k r S Z))) (vp_Si (fun r => r = nI (S 0 5))) 0 0 (fun _ => False) := by
  refine Met.ofW (cc := cX2_rows) (maxL := 1) (ret := (some .int)) (by decide) rfl ?_
  intro p e s m args below meth c s₁ B hml hv
  obtain ⟨rfl, hP, hX⟩ := hv
  have hx := B.exec
  have hb := B.bytes
  have hr := B.returns
  have hts := atoms_spec (ws := wsX2_rows) B.pre
  have hown : s.vm.findClass RX2 = some m.cls := findClass_of_methodNamed B.named
  have hlocks := B.notSynchronized
  have hf_174 := hts (.fieldLink RX2 174 "FloorGraph" "rowsWorked" "I") (by decide +kernel)
  have hin_X2 : ∀ w ∈ u_ws RX2 TX2 12, w ∈ wsX2_rows := by decide +kernel
  have hl := lv_entry ([.ref (q 0)]) (n := 1) (Nat.le_of_ble_eq_true rfl)
  rw [lg_entry_eq]
  generalize (lg_sl ([.ref (q 0)]) ++ List.replicate (1 - (lg_sl ([.ref (q 0)])).length) Slot.unset).toArray = ls at hl ⊢
  have hl : lv_has ls 1 [(0, .ref (q 0))] := hl
  refine lv_aload_n hx hb dX2_rows_0 rfl (lv_at hl 0 rfl) ?_
  refine va_get (D := D) (v := .int (nI (S 0 5))) hx hb hts hin_X2 hown hX.1 hP 0 rfl rfl 11 (by decide) hf_174 (fun _ h9 => h9) rfl dX2_rows_1 ?_
  exact W.iret (v := nI (S 0 5)) hx hb hr (fun t ht hW => ⟨_, rfl, rfl, ht⟩) (fun _ h => by cases h) dX2_rows_4
