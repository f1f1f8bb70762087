set_option maxHeartbeats 4000000 in
set_option maxRecDepth 100000 in
theorem k_X2_workRow (l : Launch) (D : va_G) (q : Nat → Nat) (k : Nat → ClassId) (r : Nat → Nat) (S Z : Nat → Nat → Nat) (sz : Nat) (i0 : Nat) (hB : Bd S) (hZ0 : ∀ p, Z 0 p ≤ 1) (hG : Gr S (2 * S 0 0)) (hi : i0 < S 0 3) (h12 : ∀ i, i < S 0 3 → S 12 i < S 0 0) : Met l yX2_workRow wsX2_workRow ({ frames := 4, cells := 0, slots := 0, locals := 95 } : Room) (va_Pc [.ref (q 0), .int (nI i0)] (wB D k (wC q k r S Z) sz)) (va_Qv (fun (u : (Nat → Nat → Nat) × (Nat → Nat → Nat)) => u.1 = up2 (up2 S 13 i0 (S 0 4)) 0 5 (S 0 5 + 1) ∧ u.2 = upR (dvZ S Z (S 11 0) 12 (S 12 i0)) (50 + i0) (fun j => if j < S 0 3 then secs S (S 11 0) 12 (S 12 i0) (S 12 j) else dvZ S Z (S 11 0) 12 (S 12 i0) (50 + i0) j)) (fun u t => wE D (va_A (wC q k r S Z) sz) (wC q k r u.1 u.2) t) (va_A (wC q k r S Z) sz)) 0 0 (va_A (wC q k r S Z) sz) := by
  refine Met.ofW (cc := cX2_workRow) (maxL := 4) (ret := none) (by decide) rfl ?_
  intro p e s m args below meth c s₁ B hml hv
  obtain ⟨rfl, hsz, hP, hX, hD0⟩ := hv
  have hx := B.exec
  have hb := B.bytes
  have hr := B.returns
  have hts := atoms_spec (ws := wsX2_workRow) B.pre
  have hown : s.vm.findClass RX2 = some m.cls := findClass_of_methodNamed B.named
  have hlocks := B.notSynchronized
  subst hsz
  have hD := hD0.self (sz := s.heap.size)
  generalize hAe : va_A (wC q k r S Z) s.heap.size = A at hD ⊢
  have hA : ∀ q : Nat, s.heap.size ≤ q → A q := fun q h => by rw [← hAe]; exact Or.inr h
  have hS : va_S A s.heap s.heap [] := va_S.rf
  have hP : va_P D vwCl (wC q k r S Z) s.heap := hP
  have hf_12 := hts (.fieldLink RX2 12 "FloorGraph" "floor" "LFloorGraph$Floor;") (by decide +kernel)
  have hf_19 := hts (.fieldLink RX2 19 "FloorGraph" "drive" "LFloorGraph$Drive;") (by decide +kernel)
  have hf_23 := hts (.fieldLink RX2 23 "FloorGraph" "robotWidths" "[I") (by decide +kernel)
  have hf_27 := hts (.fieldLink RX2 27 "FloorGraph" "chargerPieces" "[I") (by decide +kernel)
  have hf_35 := hts (.fieldLink RX2 35 "FloorGraph" "tableRows" "[[I") (by decide +kernel)
  have hf_38 := hts (.fieldLink RX2 38 "FloorGraph" "rowWorkedAt" "[I") (by decide +kernel)
  have hf_59 := hts (.fieldLink RX2 59 "FloorGraph" "changes" "I") (by decide +kernel)
  have hf_158 := hts (.fieldLink RX2 158 "FloorGraph" "chargers" "I") (by decide +kernel)
  have hf_174 := hts (.fieldLink RX2 174 "FloorGraph" "rowsWorked" "I") (by decide +kernel)
  have hin_X2 : ∀ w ∈ u_ws RX2 TX2 12, w ∈ wsX2_workRow := by decide +kernel
  have f0 := hB.1
  have k0 := h12 i0 hi
  have f11 := (hB.2.2.2.2 0).1
  have hl := lv_entry ([.ref (q 0), .int (nI i0)]) (n := 4) (Nat.le_of_ble_eq_true rfl)
  rw [lg_entry_eq]
  generalize (lg_sl ([.ref (q 0), .int (nI i0)]) ++ List.replicate (4 - (lg_sl ([.ref (q 0), .int (nI i0)])).length) Slot.unset).toArray = ls at hl ⊢
  have hl : lv_has ls 4 [(0, .ref (q 0)), (1, .int (nI i0))] := hl
  refine lv_aload_n hx hb dX2_workRow_0 rfl (lv_at hl 0 rfl) ?_
  refine va_get (D := D) (v := .ref (q 19)) hx hb hts hin_X2 hown hX.1 hP 0 rfl rfl 4 (by decide) hf_27 (fun _ h9 => h9) rfl dX2_workRow_1 ?_
  refine lv_iload_n hx hb dX2_workRow_4 rfl (lv_at hl 1 rfl) ?_
  refine na_iald hx hb hX.1 hP 19 0 rfl rfl (by omega) (by decide) dX2_workRow_5 ?_
  refine lv_istore_n (lv' := [(2, .int (nI (S 12 i0))), (0, .ref (q 0)), (1, .int (nI i0))]) hx hb dX2_workRow_6 rfl hl (by decide) rfl (fun ls hl => ?_)
  refine lv_aload_n hx hb dX2_workRow_7 rfl (lv_at hl 1 rfl) ?_
  refine va_get (D := D) (v := .ref (q 2)) hx hb hts hin_X2 hown hX.1 hP 0 rfl rfl 1 (by decide) hf_19 (fun _ h9 => h9) rfl dX2_workRow_8 ?_
  refine lv_aload_n hx hb dX2_workRow_11 rfl (lv_at hl 1 rfl) ?_
  refine va_get (D := D) (v := .ref (q 1)) hx hb hts hin_X2 hown hX.1 hP 0 rfl rfl 0 (by decide) hf_12 (fun _ h9 => h9) rfl dX2_workRow_12 ?_
  refine lv_aload_n hx hb dX2_workRow_15 rfl (lv_at hl 1 rfl) ?_
  refine va_get (D := D) (v := .ref (q 18)) hx hb hts hin_X2 hown hX.1 hP 0 rfl rfl 2 (by decide) hf_23 (fun _ h9 => h9) rfl dX2_workRow_16 ?_
  refine lv_iconst (v := nI 0) hx hb dX2_workRow_19 (by decide) ?_
  refine na_iald hx hb hX.1 hP 18 0 rfl rfl (by omega) (by decide) dX2_workRow_20 ?_
  refine lv_bipush (v := nI 12) hx hb dX2_workRow_21 (by decide) ?_
  refine wr_Nv (As := [.ref (q 1), .int (nI (S 11 0)), .int (nI 12)]) (rest := []) ⟨hx, hb, hml, hown, hts⟩ (k_X0_begin l D q k r S Z _ (S 11 0) 12 hB (by omega) (by omega)) ⟨va_cnB 3 hts gX2_workRow_X0_begin_n131 rfl rfl rfl (hX.2.2 ("FloorGraph", 131, yX0_begin) (by decide +kernel)) (hts (.initialized RX0) (by decide +kernel)) (by decide +kernel) ⟨by decide, by decide⟩, hts (.instanceMethod yX0_begin) (by decide +kernel), hts (.selects RX0 yX0_begin yX0_begin) (by decide +kernel)⟩ hX hP hD hS hA (q0 := 2) rfl rfl rfl hl.1 rfl (Nat.le_of_ble_eq_true rfl) dX2_workRow_23 ⟨Nat.le_of_ble_eq_true rfl, Nat.le_of_ble_eq_true rfl⟩ (fun u_1 H locs hw_1 hP hD hS => ?_)
  obtain ⟨S_1, Z_1⟩ := u_1
  obtain ⟨e1, e2⟩ := hw_1
  dsimp only at e1 e2 hP hD
  rw [e1, e2] at hP hD
  have hP : va_P D vwCl (wC q k r S (dvO S Z (S 11 0) 12)) H := hP
  have hD : va_D A (wC q k r S (dvO S Z (S 11 0) 12)) := hD
  refine lv_aload_n hx hb dX2_workRow_26 rfl (lv_at hl 1 rfl) ?_
  refine va_get (D := D) (v := .ref (q 2)) hx hb hts hin_X2 hown hX.1 hP 0 rfl rfl 1 (by decide) hf_19 (fun _ h9 => h9) rfl dX2_workRow_27 ?_
  refine lv_aload_n hx hb dX2_workRow_30 rfl (lv_at hl 1 rfl) ?_
  refine va_get (D := D) (v := .ref (q 1)) hx hb hts hin_X2 hown hX.1 hP 0 rfl rfl 0 (by decide) hf_12 (fun _ h9 => h9) rfl dX2_workRow_31 ?_
  refine lv_iload_n hx hb dX2_workRow_34 rfl (lv_at hl 0 rfl) ?_
  refine wr_Nv (As := [.ref (q 1), .int (nI (S 12 i0))]) (rest := []) ⟨hx, hb, hml, hown, hts⟩ (k_X0_spread l D q k r S (dvO S Z (S 11 0) 12) _ (S 12 i0) hB (fun p => dvO_le hZ0 p) hG k0) ⟨va_cnB 2 hts gX2_workRow_X0_spread_n135 rfl rfl rfl (hX.2.2 ("FloorGraph", 135, yX0_spread) (by decide +kernel)) (hts (.initialized RX0) (by decide +kernel)) (by decide +kernel) ⟨by decide, by decide⟩, hts (.instanceMethod yX0_spread) (by decide +kernel), hts (.selects RX0 yX0_spread yX0_spread) (by decide +kernel)⟩ hX hP hD hS hA (q0 := 2) rfl rfl rfl hl.1 rfl (Nat.le_of_ble_eq_true rfl) dX2_workRow_35 ⟨Nat.le_of_ble_eq_true rfl, Nat.le_of_ble_eq_true rfl⟩ (fun u_2 H locs hw_2 hP hD hS => ?_)
  obtain ⟨S_2, Z_2⟩ := u_2
  obtain ⟨e1, e2⟩ := hw_2
  dsimp only at e1 e2 hP hD
  rw [e1, e2] at hP hD
  have hP : va_P D vwCl (wC q k r S (dvZ S Z (S 11 0) 12 (S 12 i0))) H := hP
  have hD : va_D A (wC q k r S (dvZ S Z (S 11 0) 12 (S 12 i0))) := hD
  obtain ⟨Y, hY⟩ : ∃ X, X = dvZ S Z (S 11 0) 12 (S 12 i0) := ⟨_, rfl⟩
  rw [← hY] at hP hD
  have hY0 : ∀ p, Y 0 p ≤ 1 := by rw [hY]; exact fun p => dvZ_0 hZ0 p
  have hY1 : ∀ e, Y 1 e ≤ 1000000 := by rw [hY]; exact fun p => dvZ_le hG p
  have hYs : ∀ t, sTo S (oZ Y) (Y 1) (S 12 i0) t = secs S (S 11 0) 12 (S 12 i0) t := fun t => by rw [hY]; exact dvZ_s hG
  refine lv_iconst (v := nI 0) hx hb dX2_workRow_38 (by decide) ?_
  refine lv_istore_n (lv' := [(3, .int (nI 0)), (2, .int (nI (S 12 i0))), (0, .ref (q 0)), (1, .int (nI i0))]) hx hb dX2_workRow_39 rfl hl (by decide) rfl (fun ls hl => ?_)
  have L40 : ∀ (n40 : Nat) (i : Nat) (X1 : Nat → Nat → Nat), (S 0 3 < i + n40) → (h1 : i ≤ S 0 3) → (hX1 : X1 = upR Y (50 + i0) (fun j => if j < i then secs S (S 11 0) 12 (S 12 i0) (S 12 j) else Y (50 + i0) j)) → ∀ (H : Heap) (locs : List Loc), va_P D vwCl (wC q k r S X1) H → va_D A (wC q k r S X1) → va_S A s.heap H locs → ∀ (ls : Array Slot), lv_has ls 4 [(3, .int (nI i)), (2, .int (nI (S 12 i0))), (0, .ref (q 0)), (1, .int (nI i0))] → W p l e (headSpec wsX2_workRow ({ frames := 4, cells := 0, slots := 0, locals := 95 } : Room)).room s m [.ref (q 0), .int (nI i0)].toArray below meth c H locs 0 0 (MQ below (va_Qv (fun (u : (Nat → Nat → Nat) × (Nat → Nat → Nat)) => u.1 = up2 (up2 S 13 i0 (S 0 4)) 0 5 (S 0 5 + 1) ∧ u.2 = upR (dvZ S Z (S 11 0) 12 (S 12 i0)) (50 + i0) (fun j => if j < S 0 3 then secs S (S 11 0) 12 (S 12 i0) (S 12 j) else dvZ S Z (S 11 0) 12 (S 12 i0) (50 + i0) j)) (fun u t => wE D (A) (wC q k r u.1 u.2) t) (A)) [.ref (q 0), .int (nI i0)].toArray s 0 0 A) (F0 m 40 ls []) := by
    intro n40
    induction n40 with
    | zero =>
      intro i X1 hfuel40 h1 hX1 H locs hP hD hS ls hl
      exact absurd hfuel40 (by omega)
    | succ n40 ih40 =>
      intro i X1 hfuel40 h1 hX1 H locs hP hD hS ls hl
      refine lv_iload_n hx hb dX2_workRow_40 rfl (lv_at hl 0 rfl) ?_
      refine lv_aload_n hx hb dX2_workRow_41 rfl (lv_at hl 2 rfl) ?_
      refine va_get (D := D) (v := .int (nI (S 0 3))) hx hb hts hin_X2 hown hX.1 hP 0 rfl rfl 5 (by decide) hf_158 (fun _ h9 => h9) rfl dX2_workRow_42 ?_
      refine na_icmp_ge (tgt := 80) hx hb (by omega) (by omega) dX2_workRow_45 (by decide) (fun h_45 => ?_) (fun h_45 => ?_)
      · skip
        refine lv_aload_n hx hb dX2_workRow_80 rfl (lv_at hl 2 rfl) ?_
        refine va_get (D := D) (v := .ref (q 22)) hx hb hts hin_X2 hown hX.1 hP 0 rfl rfl 9 (by decide) hf_38 (fun _ h9 => h9) rfl dX2_workRow_81 ?_
        refine lv_iload_n hx hb dX2_workRow_84 rfl (lv_at hl 3 rfl) ?_
        refine lv_aload_n hx hb dX2_workRow_85 rfl (lv_at hl 2 rfl) ?_
        refine va_get (D := D) (v := .int (nI (S 0 4))) hx hb hts hin_X2 hown hX.1 hP 0 rfl rfl 10 (by decide) hf_59 (fun _ h9 => h9) rfl dX2_workRow_86 ?_
        refine na_iast hx hb hX.1 hP hD hS 22 0 rfl rfl (by omega) (by decide) (upd_enc nI _ _ _) dX2_workRow_89 (fun H locs hP hD hS => ?_)
        have hP : va_P D vwCl (wC q k r (up2 S 13 i0 (S 0 4)) X1) H := sP_C22 hP
        have hD : va_D A (wC q k r (up2 S 13 i0 (S 0 4)) X1) := sD_C22 hD
        refine lv_aload_n hx hb dX2_workRow_90 rfl (lv_at hl 2 rfl) ?_
        refine lv_dup hx hb dX2_workRow_91 rfl ?_
        refine va_get (D := D) (v := .int (nI (S 0 5))) hx hb hts hin_X2 hown hX.1 hP 0 rfl rfl 11 (by decide) hf_174 (fun _ h9 => h9) rfl dX2_workRow_92 ?_
        refine lv_iconst (v := nI 1) hx hb dX2_workRow_95 (by decide) ?_
        refine na_iadd hx hb dX2_workRow_96 ?_
        refine va_put (D := D) (v := .int (nI ((S 0 5) + 1))) (ty := .int) hx hb hts hin_X2 tyX2 tyX2_ok nmX2 hown hX.1 hP hD hS 0 rfl rfl 11 (by decide) hf_174 (fun _ h9 => h9) rfl (by decide +kernel) rfl rfl (Nat.le_of_ble_eq_true rfl) dX2_workRow_97 (fun H locs hP hD hS => ?_)
        have hP : va_P D vwCl (wC q k r (up2 (up2 S 13 i0 (S 0 4)) 0 5 ((S 0 5) + 1)) X1) H := sP_C0_11 hP
        have hD : va_D A (wC q k r (up2 (up2 S 13 i0 (S 0 4)) 0 5 ((S 0 5) + 1)) X1) := sD_C0_11 hD
        exact W.vret hx hb hr (fun t ht hW => ⟨⟨((up2 (up2 S 13 i0 (S 0 4)) 0 5 ((S 0 5) + 1)), X1), rfl, ⟨rfl, by rw [hX1, hY, show i = S 0 3 by omega]⟩, by rw [ht]; exact hP, hD⟩, hS.F ht⟩) hS.2.2 dX2_workRow_100
      · skip
        refine lv_aload_n hx hb dX2_workRow_48 rfl (lv_at hl 2 rfl) ?_
        refine va_get (D := D) (v := .ref (q 21)) hx hb hts hin_X2 hown hX.1 hP 0 rfl rfl 8 (by decide) hf_35 (fun _ h9 => h9) rfl dX2_workRow_49 ?_
        refine lv_iload_n hx hb dX2_workRow_52 rfl (lv_at hl 3 rfl) ?_
        refine na_aald (b := r (40 + i0)) hx hb hX.1 hP 21 2 rfl rfl (by omega) (by decide) (if_pos (by omega)) dX2_workRow_53 ?_
        refine lv_iload_n hx hb dX2_workRow_54 rfl (lv_at hl 0 rfl) ?_
        refine lv_aload_n hx hb dX2_workRow_55 rfl (lv_at hl 2 rfl) ?_
        refine va_get (D := D) (v := .ref (q 2)) hx hb hts hin_X2 hown hX.1 hP 0 rfl rfl 1 (by decide) hf_19 (fun _ h9 => h9) rfl dX2_workRow_56 ?_
        refine lv_aload_n hx hb dX2_workRow_59 rfl (lv_at hl 2 rfl) ?_
        refine va_get (D := D) (v := .ref (q 1)) hx hb hts hin_X2 hown hX.1 hP 0 rfl rfl 0 (by decide) hf_12 (fun _ h9 => h9) rfl dX2_workRow_60 ?_
        refine lv_iload_n hx hb dX2_workRow_63 rfl (lv_at hl 1 rfl) ?_
        refine lv_aload_n hx hb dX2_workRow_64 rfl (lv_at hl 2 rfl) ?_
        refine va_get (D := D) (v := .ref (q 19)) hx hb hts hin_X2 hown hX.1 hP 0 rfl rfl 4 (by decide) hf_27 (fun _ h9 => h9) rfl dX2_workRow_65 ?_
        refine lv_iload_n hx hb dX2_workRow_68 rfl (lv_at hl 0 rfl) ?_
        refine na_iald hx hb hX.1 hP 19 0 rfl rfl (by omega) (by decide) dX2_workRow_69 ?_
        refine rd_N (As := [.ref (q 1), .int (nI (S 12 i0)), .int (nI (S 12 i))]) (rest := [.int (nI i), .ref (r (40 + i0))]) ⟨hx, hb, hml, hown, hts⟩ (k_X0_secondsTo l D q k r S X1 (S 12 i0) (S 12 i) hB (by rw [hX1, upR_ne _ _ (show 1 ≠ 50 + i0 by omega)]; exact hY1) (by rw [hX1, upR_ne _ _ (show 0 ≠ 50 + i0 by omega)]; exact hY0) (by omega) (by have := h12 i (by omega); omega)) ⟨va_cnB 3 hts gX2_workRow_X0_secondsTo_n146 rfl rfl rfl (hX.2.2 ("FloorGraph", 146, yX0_secondsTo) (by decide +kernel)) (hts (.initialized RX0) (by decide +kernel)) (by decide +kernel) ⟨by decide, by decide⟩, hts (.instanceMethod yX0_secondsTo) (by decide +kernel), hts (.selects RX0 yX0_secondsTo yX0_secondsTo) (by decide +kernel)⟩ hX hP (q0 := 2) rfl rfl rfl hl.1 rfl (Nat.le_of_ble_eq_true rfl) dX2_workRow_70 ⟨Nat.zero_le _, Nat.zero_le _⟩ ?_
        refine na_as (y := rI (secs S (S 11 0) 12 (S 12 i0) (S 12 i))) (congrArg rI (by rw [hX1, oZ_far, upR_ne _ _ (show 1 ≠ 50 + i0 by omega)]; exact hYs _)) ?_
        refine na_iast hx hb hX.1 hP hD hS (63 + i0) 0 (wC_tab (by omega)) rfl (by omega) (by decide) (upd_enc rI _ _ _) dX2_workRow_73 (fun H locs hP hD hS => ?_)
        rw [wC_setT (by omega)] at hP hD
        refine lv_iinc (v := nI (i + 1)) (lv' := [(3, .int (nI (i + 1))), (2, .int (nI (S 12 i0))), (0, .ref (q 0)), (1, .int (nI i0))]) hx hb dX2_workRow_74 hl (k := 0) rfl (nI_add _ 1) (by decide) rfl (fun ls hl => ?_)
        refine lv_goto (tgt := 40) hx hb dX2_workRow_77 (by decide) ?_
        exact ih40 (i + 1) ((up2 X1 (50 + i0) i (secs S (S 11 0) 12 (S 12 i0) (S 12 i)))) (by omega) (by omega) (by rw [hX1]; exact fillG_s Y (50 + i0) i (fun j => secs S (S 11 0) 12 (S 12 i0) (S 12 j)) rfl) _ _ hP hD hS ls hl
  exact L40 (S 0 3 + 1) 0 Y (by omega) (by omega) (fillG_0 Y (50 + i0) (fun j => secs S (S 11 0) 12 (S 12 i0) (S 12 j))) _ _ hP hD hS ls hl

set_option maxHeartbeats 4000000 in
set_option maxRecDepth 100000 in
theorem k_X2_way (l : Launch) (hst : l.stackTraces = false) (D : va_G) (q : Nat → Nat) (k : Nat → ClassId) (r : Nat → Nat) (S Z : Nat → Nat → Nat) (sz : Nat) (x0 : Int32) (x1 : Int32) (x2 : Int32) (x3 : Int32) (hB : Bd S) (hZ0 : ∀ p, Z 0 p ≤ 1) (hZ2 : ∀ p, Z 2 p ≤ 1) (hGw : Gw S) : vx_Met l yX2_way wsX2_way ({ frames := 8, cells := 3, slots := 18, locals := 135 } : Room) (va_Pc [.ref (q 0), .int x0, .int x1, .int x2, .int x3] (tB D k (wC q k r S Z) sz)) (va_Qi (fun (r : Int32) (u : (Nat → Nat → Nat) × (Nat → Nat → Nat)) => cd1 (okD S x0 x1 x2 x3) = 0 ∧ r = rI (secs S (S 11 (iN x0)) (iN x3) (iN x1) (iN x2)) ∧ u.1 = waS S (S 11 (iN x0)) (iN x3) (iN x1) (iN x2) ∧ ZR Z u.2) (fun u t => wE D (va_A (wC q k r S Z) sz) (wC q k r u.1 u.2) t) (va_A (wC q k r S Z) sz)) (vx_X (fun _ : Unit => True) (fun E _ t => (E = eIA ∧ cd1 (okD S x0 x1 x2 x3) = 1) ∧ wE D (va_A (wC q k r S Z) sz) (wC q k r S Z) t) (va_A (wC q k r S Z) sz)) 3 18 (va_A (wC q k r S Z) sz) := by
  refine vx_ofW (cc := cX2_way) (maxL := 5) (ret := (some .int)) (by decide) rfl ?_
  intro p e s m args below meth c s₁ B hml hno hv
  obtain ⟨rfl, ⟨hsz, hP, hX, hD0⟩, hT, hZ⟩ := hv
  have hx := B.exec
  have hb := B.bytes
  have hr := B.returns
  have hts := atoms_spec (ws := wsX2_way) B.pre
  have hown : s.vm.findClass RX2 = some m.cls := findClass_of_methodNamed B.named
  have hlocks := B.notSynchronized
  subst hsz
  have hD := hD0.self (sz := s.heap.size)
  generalize hAe : va_A (wC q k r S Z) s.heap.size = A at hD hZ ⊢
  have hA : ∀ q : Nat, s.heap.size ≤ q → A q := fun q h => by rw [← hAe]; exact Or.inr h
  have hS : va_S A s.heap s.heap [] := va_S.rf
  have hP : va_P D vwCl (wC q k r S Z) s.heap := hP
  have hf_12 := hts (.fieldLink RX2 12 "FloorGraph" "floor" "LFloorGraph$Floor;") (by decide +kernel)
  have hf_19 := hts (.fieldLink RX2 19 "FloorGraph" "drive" "LFloorGraph$Drive;") (by decide +kernel)
  have hf_23 := hts (.fieldLink RX2 23 "FloorGraph" "robotWidths" "[I") (by decide +kernel)
  have hf_30 := hts (.fieldLink RX2 30 "FloorGraph" "wayBack" "[I") (by decide +kernel)
  have hf_143 := hts (.fieldLink RX2 143 "FloorGraph" "waySize" "I") (by decide +kernel)
  have hin_X2 : ∀ w ∈ u_ws RX2 TX2 12, w ∈ wsX2_way := by decide +kernel
  have f0 := hB.1
  have hG := hGw.1
  have hl := lv_entry ([.ref (q 0), .int x0, .int x1, .int x2, .int x3]) (n := 5) (Nat.le_of_ble_eq_true rfl)
  rw [lg_entry_eq]
  generalize (lg_sl ([.ref (q 0), .int x0, .int x1, .int x2, .int x3]) ++ List.replicate (5 - (lg_sl ([.ref (q 0), .int x0, .int x1, .int x2, .int x3])).length) Slot.unset).toArray = ls at hl ⊢
  have hl : lv_has ls 5 [(0, .ref (q 0)), (1, .int x0), (2, .int x1), (3, .int x2), (4, .int x3)] := hl
  refine lv_aload_n hx hb dX2_way_0 rfl (lv_at hl 0 rfl) ?_
  refine lv_iload_n hx hb dX2_way_1 rfl (lv_at hl 1 rfl) ?_
  refine lv_iload_n hx hb dX2_way_2 rfl (lv_at hl 2 rfl) ?_
  refine lv_iload_n hx hb dX2_way_3 rfl (lv_at hl 3 rfl) ?_
  refine lv_iload hx hb dX2_way_4 (lv_at hl 4 rfl) ?_
  refine xr_Vv (As := [.int x0, .int x1, .int x2, .int x3]) (rest := []) ⟨hx, hb, hml, hown, hts⟩ (k_X2_needJourney l hst D q k r S Z _ x0 x1 x2 x3 hB) (cwV 4 hts gX2_way_X2_needJourney rfl rfl rfl (by decide +kernel) ⟨by decide, by decide⟩) hX hT hZ hP hD hS hA (q0 := 0) rfl rfl rfl hl.1 rfl (Nat.le_of_ble_eq_true rfl) dX2_way_6 ⟨(Nat.le_of_ble_eq_true rfl), (Nat.le_of_ble_eq_true rfl)⟩ hno hlocks (Nat.le_of_ble_eq_true rfl) (Nat.le_of_ble_eq_true rfl) (fun _ h => h) (fun E u t _ hxe hvm hP9 hD9 hF9 => ⟨(), trivial, ⟨⟨hxe.1, cd1_1 (ok := okD S x0 x1 x2 x3) hxe.2⟩, hP9, hD9⟩, hF9⟩) (fun u_1 H locs hw_1 hP hD hS => ?_)
  obtain ⟨S_1, Z_1⟩ := u_1
  obtain ⟨e1, e2, hk_1⟩ := hw_1
  dsimp only at e1 e2 hP hD
  rw [e1, e2] at hP hD
  have hP : va_P D vwCl (wC q k r S Z) H := hP
  have hD : va_D A (wC q k r S Z) := hD
  have l1 := hk_1.2.1.lt
  have l2 := hk_1.2.2.1.lt
  have j0 := iN_toInt (x := x0) hk_1.1.1
  have j3 := iN_toInt (x := x3) hk_1.2.2.2.1
  have l0 := hk_1.1.2
  have l3 := hk_1.2.2.2.2
  have c0 : cd1 (okD S x0 x1 x2 x3) = 0 := cd1_0 hk_1
  have f11 := (hB.2.2.2.2 (iN x0)).1
  refine lv_aload_n hx hb dX2_way_9 rfl (lv_at hl 0 rfl) ?_
  refine va_get (D := D) (v := .ref (q 2)) hx hb hts hin_X2 hown hX.1 hP 0 rfl rfl 1 (by decide) hf_19 (fun _ h9 => h9) rfl dX2_way_10 ?_
  refine lv_aload_n hx hb dX2_way_13 rfl (lv_at hl 0 rfl) ?_
  refine va_get (D := D) (v := .ref (q 1)) hx hb hts hin_X2 hown hX.1 hP 0 rfl rfl 0 (by decide) hf_12 (fun _ h9 => h9) rfl dX2_way_14 ?_
  refine lv_aload_n hx hb dX2_way_17 rfl (lv_at hl 0 rfl) ?_
  refine va_get (D := D) (v := .ref (q 18)) hx hb hts hin_X2 hown hX.1 hP 0 rfl rfl 2 (by decide) hf_23 (fun _ h9 => h9) rfl dX2_way_18 ?_
  refine lv_iload_n hx hb dX2_way_21 rfl (lv_at hl 1 rfl) ?_
  refine na_as (y := nI (iN x0)) (iN_eq hk_1.1.1) ?_
  refine na_iald hx hb hX.1 hP 18 0 rfl rfl (by omega) (by decide) dX2_way_22 ?_
  refine lv_iload hx hb dX2_way_23 (lv_at hl 4 rfl) ?_
  refine na_as (y := nI (iN x3)) (iN_eq hk_1.2.2.2.1) ?_
  refine wr_Nv (As := [.ref (q 1), .int (nI (S 11 (iN x0))), .int (nI (iN x3))]) (rest := []) ⟨hx, hb, hml, hown, hts⟩ (k_X0_begin l D q k r S Z _ (S 11 (iN x0)) (iN x3) hB (by omega) (by omega)) ⟨va_cnB 3 hts gX2_way_X0_begin_n131 rfl rfl rfl (hX.2.2 ("FloorGraph", 131, yX0_begin) (by decide +kernel)) (hts (.initialized RX0) (by decide +kernel)) (by decide +kernel) ⟨by decide, by decide⟩, hts (.instanceMethod yX0_begin) (by decide +kernel), hts (.selects RX0 yX0_begin yX0_begin) (by decide +kernel)⟩ hX hP hD hS hA (q0 := 2) rfl rfl rfl hl.1 rfl (Nat.le_of_ble_eq_true rfl) dX2_way_25 ⟨Nat.le_of_ble_eq_true rfl, Nat.le_of_ble_eq_true rfl⟩ (fun u_2 H locs hw_2 hP hD hS => ?_)
  obtain ⟨S_2, Z_2⟩ := u_2
  obtain ⟨e1, e2⟩ := hw_2
  dsimp only at e1 e2 hP hD
  rw [e1, e2] at hP hD
  have hP : va_P D vwCl (wC q k r S (dvO S Z (S 11 (iN x0)) (iN x3))) H := hP
  have hD : va_D A (wC q k r S (dvO S Z (S 11 (iN x0)) (iN x3))) := hD
  refine lv_aload_n hx hb dX2_way_28 rfl (lv_at hl 0 rfl) ?_
  refine va_get (D := D) (v := .ref (q 2)) hx hb hts hin_X2 hown hX.1 hP 0 rfl rfl 1 (by decide) hf_19 (fun _ h9 => h9) rfl dX2_way_29 ?_
  refine lv_aload_n hx hb dX2_way_32 rfl (lv_at hl 0 rfl) ?_
  refine va_get (D := D) (v := .ref (q 1)) hx hb hts hin_X2 hown hX.1 hP 0 rfl rfl 0 (by decide) hf_12 (fun _ h9 => h9) rfl dX2_way_33 ?_
  refine lv_iload_n hx hb dX2_way_36 rfl (lv_at hl 2 rfl) ?_
  refine na_as (y := nI (iN x1)) (iN_eq hk_1.2.1.1) ?_
  refine wr_Nv (As := [.ref (q 1), .int (nI (iN x1))]) (rest := []) ⟨hx, hb, hml, hown, hts⟩ (k_X0_spread l D q k r S (dvO S Z (S 11 (iN x0)) (iN x3)) _ (iN x1) hB (fun p => dvO_le hZ0 p) hG l1) ⟨va_cnB 2 hts gX2_way_X0_spread_n135 rfl rfl rfl (hX.2.2 ("FloorGraph", 135, yX0_spread) (by decide +kernel)) (hts (.initialized RX0) (by decide +kernel)) (by decide +kernel) ⟨by decide, by decide⟩, hts (.instanceMethod yX0_spread) (by decide +kernel), hts (.selects RX0 yX0_spread yX0_spread) (by decide +kernel)⟩ hX hP hD hS hA (q0 := 2) rfl rfl rfl hl.1 rfl (Nat.le_of_ble_eq_true rfl) dX2_way_37 ⟨Nat.le_of_ble_eq_true rfl, Nat.le_of_ble_eq_true rfl⟩ (fun u_3 H locs hw_3 hP hD hS => ?_)
  obtain ⟨S_3, Z_3⟩ := u_3
  obtain ⟨e1, e2⟩ := hw_3
  dsimp only at e1 e2 hP hD
  rw [e1, e2] at hP hD
  have hP : va_P D vwCl (wC q k r S (dvZ S Z (S 11 (iN x0)) (iN x3) (iN x1))) H := hP
  have hD : va_D A (wC q k r S (dvZ S Z (S 11 (iN x0)) (iN x3) (iN x1))) := hD
  obtain ⟨Y, hY⟩ : ∃ X, X = dvZ S Z (S 11 (iN x0)) (iN x3) (iN x1) := ⟨_, rfl⟩
  rw [← hY] at hP hD
  have hY0 : ∀ p, Y 0 p ≤ 1 := by rw [hY]; exact fun p => dvZ_0 hZ0 p
  have hY1 : ∀ e, Y 1 e ≤ 1000000 := by rw [hY]; exact fun p => dvZ_le hG p
  have hYs : ∀ t, sTo S (oZ Y) (Y 1) (iN x1) t = secs S (S 11 (iN x0)) (iN x3) (iN x1) t := fun t => by rw [hY]; exact dvZ_s hG
  have hYF : Fx S (oZ Y) (iN x1) (Y 1) := by rw [hY]; exact dvZ_Fx hG l1
  have hYw : wayE S (oZ Y) (Y 1) (iN x1) (iN x2) = wayE S (opn S (S 11 (iN x0)) (iN x3)) (fin S (opn S (S 11 (iN x0)) (iN x3)) (iN x1)) (iN x1) (iN x2) := by rw [hY]; exact dvZ_w hGw l1
  have hYb := wayE_b hGw hYF l2 f0.1 (fun i => (hB.2.2.2.2 i).2.2)
  refine lv_aload_n hx hb dX2_way_40 rfl (lv_at hl 0 rfl) ?_
  refine lv_aload_n hx hb dX2_way_41 rfl (lv_at hl 0 rfl) ?_
  refine va_get (D := D) (v := .ref (q 2)) hx hb hts hin_X2 hown hX.1 hP 0 rfl rfl 1 (by decide) hf_19 (fun _ h9 => h9) rfl dX2_way_42 ?_
  refine lv_aload_n hx hb dX2_way_45 rfl (lv_at hl 0 rfl) ?_
  refine va_get (D := D) (v := .ref (q 1)) hx hb hts hin_X2 hown hX.1 hP 0 rfl rfl 0 (by decide) hf_12 (fun _ h9 => h9) rfl dX2_way_46 ?_
  refine lv_iload_n hx hb dX2_way_49 rfl (lv_at hl 2 rfl) ?_
  refine na_as (y := nI (iN x1)) (iN_eq hk_1.2.1.1) ?_
  refine lv_iload_n hx hb dX2_way_50 rfl (lv_at hl 3 rfl) ?_
  refine na_as (y := nI (iN x2)) (iN_eq hk_1.2.2.1.1) ?_
  refine lv_aload_n hx hb dX2_way_51 rfl (lv_at hl 0 rfl) ?_
  refine va_get (D := D) (v := .ref (q 20)) hx hb hts hin_X2 hown hX.1 hP 0 rfl rfl 6 (by decide) hf_30 (fun _ h9 => h9) rfl dX2_way_52 ?_
  refine wr_Ni (As := [.ref (q 1), .int (nI (iN x1)), .int (nI (iN x2)), .ref (q 20)]) (rest := [.ref (q 0)]) ⟨hx, hb, hml, hown, hts⟩ (k_X0_trace l D q k r S Y _ (iN x1) (iN x2) hB hY1 hY0 hGw hYF l1 l2) ⟨va_cnB 4 hts gX2_way_X0_trace_n139 rfl rfl rfl (hX.2.2 ("FloorGraph", 139, yX0_trace) (by decide +kernel)) (hts (.initialized RX0) (by decide +kernel)) (by decide +kernel) ⟨by decide, by decide⟩, hts (.instanceMethod yX0_trace) (by decide +kernel), hts (.selects RX0 yX0_trace yX0_trace) (by decide +kernel)⟩ hX hP hD hS hA (q0 := 2) rfl rfl rfl hl.1 rfl (Nat.le_of_ble_eq_true rfl) dX2_way_55 ⟨Nat.le_of_ble_eq_true rfl, Nat.le_of_ble_eq_true rfl⟩ (fun r_4 u_4 H locs hw_4 hP hD hS => ?_)
  obtain ⟨S_4, Z_4⟩ := u_4
  obtain ⟨e1, e2, e3⟩ := hw_4
  dsimp only at e2 e3 hP hD
  rw [e2, e3] at hP hD
  subst e1
  have hP : va_P D vwCl (wC q k r (upR S 14 (wayE S (oZ Y) (Y 1) (iN x1) (iN x2)).1) Y) H := hP
  have hD : va_D A (wC q k r (upR S 14 (wayE S (oZ Y) (Y 1) (iN x1) (iN x2)).1) Y) := hD
  refine va_put (D := D) (v := .int (nI ((wayE S (oZ Y) (Y 1) (iN x1) (iN x2)).2))) (ty := .int) hx hb hts hin_X2 tyX2 tyX2_ok nmX2 hown hX.1 hP hD hS 0 rfl rfl 7 (by decide) hf_143 (fun _ h9 => h9) rfl (by decide +kernel) rfl rfl (Nat.le_of_ble_eq_true rfl) dX2_way_58 (fun H locs hP hD hS => ?_)
  have hP : va_P D vwCl (wC q k r (up2 (upR S 14 (wayE S (oZ Y) (Y 1) (iN x1) (iN x2)).1) 0 6 ((wayE S (oZ Y) (Y 1) (iN x1) (iN x2)).2)) Y) H := sP_C0_7 hP
  have hD : va_D A (wC q k r (up2 (upR S 14 (wayE S (oZ Y) (Y 1) (iN x1) (iN x2)).1) 0 6 ((wayE S (oZ Y) (Y 1) (iN x1) (iN x2)).2)) Y) := sD_C0_7 hD
  obtain ⟨X2, hX2⟩ : ∃ X, X = up2 (upR S 14 (wayE S (oZ Y) (Y 1) (iN x1) (iN x2)).1) 0 6 ((wayE S (oZ Y) (Y 1) (iN x1) (iN x2)).2) := ⟨_, rfl⟩
  rw [← hX2] at hP hD
  have hBX : Bd X2 := Bd_X hX2 hB hYb.2 hYb.1
  have hAX := (wa_X hX2).1
  refine lv_aload_n hx hb dX2_way_61 rfl (lv_at hl 0 rfl) ?_
  refine va_get (D := D) (v := .ref (q 2)) hx hb hts hin_X2 hown hX.1 hP 0 rfl rfl 1 (by decide) hf_19 (fun _ h9 => h9) rfl dX2_way_62 ?_
  refine lv_aload_n hx hb dX2_way_65 rfl (lv_at hl 0 rfl) ?_
  refine va_get (D := D) (v := .ref (q 1)) hx hb hts hin_X2 hown hX.1 hP 0 rfl rfl 0 (by decide) hf_12 (fun _ h9 => h9) rfl dX2_way_66 ?_
  refine lv_iload_n hx hb dX2_way_69 rfl (lv_at hl 2 rfl) ?_
  refine na_as (y := nI (iN x1)) (iN_eq hk_1.2.1.1) ?_
  refine lv_iload_n hx hb dX2_way_70 rfl (lv_at hl 3 rfl) ?_
  refine na_as (y := nI (iN x2)) (iN_eq hk_1.2.2.1.1) ?_
  refine rd_N (As := [.ref (q 1), .int (nI (iN x1)), .int (nI (iN x2))]) (rest := []) ⟨hx, hb, hml, hown, hts⟩ (k_X0_secondsTo l D q k r X2 Y (iN x1) (iN x2) hBX hY1 hY0 (by omega) (by omega)) ⟨va_cnB 3 hts gX2_way_X0_secondsTo_n146 rfl rfl rfl (hX.2.2 ("FloorGraph", 146, yX0_secondsTo) (by decide +kernel)) (hts (.initialized RX0) (by decide +kernel)) (by decide +kernel) ⟨by decide, by decide⟩, hts (.instanceMethod yX0_secondsTo) (by decide +kernel), hts (.selects RX0 yX0_secondsTo yX0_secondsTo) (by decide +kernel)⟩ hX hP (q0 := 2) rfl rfl rfl hl.1 rfl (Nat.le_of_ble_eq_true rfl) dX2_way_71 ⟨(Nat.le_of_ble_eq_true rfl), (Nat.le_of_ble_eq_true rfl)⟩ ?_
  refine na_as (y := rI (secs S (S 11 (iN x0)) (iN x3) (iN x1) (iN x2))) (congrArg rI (by rw [sTo_S hAX]; exact hYs _)) ?_
  refine vx_ret (W.widen (k := 3) (n := 18) (Nat.le_of_ble_eq_true rfl) (Nat.le_of_ble_eq_true rfl) ?_)
  exact W.iret (v := rI (secs S (S 11 (iN x0)) (iN x3) (iN x1) (iN x2))) hx hb hr (fun t ht hW => ⟨⟨_, (X2, Y), rfl, ⟨c0, rfl, by rw [hX2, hYw]; rfl, by rw [hY]; exact ZR_d hZ0 hZ2⟩, by rw [ht]; exact hP, hD⟩, hS.F ht⟩) hS.2.2 dX2_way_74

set_option maxHeartbeats 4000000 in
set_option maxRecDepth 100000 in
theorem k_X2_same (l : Launch) (hst : l.stackTraces = false) (D : va_G) (q : Nat → Nat) (k : Nat → ClassId) (r : Nat → Nat) (S Z : Nat → Nat → Nat) (sz : Nat) (x0 : Int32) (x1 : Int32) (x2 : Int32) (x3 : Int32) (hB : Bd S) (hZ0 : ∀ p, Z 0 p ≤ 1) (hZ2 : ∀ p, Z 2 p ≤ 1) (hGw : Gw S) : vx_Met l yX2_same wsX2_same ({ frames := 8, cells := 3, slots := 18, locals := 135 } : Room) (va_Pc [.ref (q 0), .int x0, .int x1, .int x2, .int x3] (tB D k (wC q k r S Z) sz)) (va_Qi (fun (r : Int32) (u : (Nat → Nat → Nat) × (Nat → Nat → Nat)) => cd1 (okD S x0 x1 x2 x3) = 0 ∧ r = nI (bN (decide (secs S (S 11 (iN x0)) (iN x3) (iN x1) (iN x2) = secs S (S 11 (iN x0)) (iN x3) (iN x2) (iN x1)))) ∧ u.1 = S ∧ ZR Z u.2) (fun u t => wE D (va_A (wC q k r S Z) sz) (wC q k r u.1 u.2) t) (va_A (wC q k r S Z) sz)) (vx_X (fun _ : Unit => True) (fun E _ t => (E = eIA ∧ cd1 (okD S x0 x1 x2 x3) = 1) ∧ wE D (va_A (wC q k r S Z) sz) (wC q k r S Z) t) (va_A (wC q k r S Z) sz)) 3 18 (va_A (wC q k r S Z) sz) := by
  refine vx_ofW (cc := cX2_same) (maxL := 7) (ret := (some .boolean)) (by decide) rfl ?_
  intro p e s m args below meth c s₁ B hml hno hv
  obtain ⟨rfl, ⟨hsz, hP, hX, hD0⟩, hT, hZ⟩ := hv
  have hx := B.exec
  have hb := B.bytes
  have hr := B.returns
  have hts := atoms_spec (ws := wsX2_same) B.pre
  have hown : s.vm.findClass RX2 = some m.cls := findClass_of_methodNamed B.named
  have hlocks := B.notSynchronized
  subst hsz
  have hD := hD0.self (sz := s.heap.size)
  generalize hAe : va_A (wC q k r S Z) s.heap.size = A at hD hZ ⊢
  have hA : ∀ q : Nat, s.heap.size ≤ q → A q := fun q h => by rw [← hAe]; exact Or.inr h
  have hS : va_S A s.heap s.heap [] := va_S.rf
  have hP : va_P D vwCl (wC q k r S Z) s.heap := hP
  have hf_12 := hts (.fieldLink RX2 12 "FloorGraph" "floor" "LFloorGraph$Floor;") (by decide +kernel)
  have hf_19 := hts (.fieldLink RX2 19 "FloorGraph" "drive" "LFloorGraph$Drive;") (by decide +kernel)
  have hf_23 := hts (.fieldLink RX2 23 "FloorGraph" "robotWidths" "[I") (by decide +kernel)
  have hin_X2 : ∀ w ∈ u_ws RX2 TX2 12, w ∈ wsX2_same := by decide +kernel
  have f0 := hB.1
  have hG := hGw.1
  have hl := lv_entry ([.ref (q 0), .int x0, .int x1, .int x2, .int x3]) (n := 7) (Nat.le_of_ble_eq_true rfl)
  rw [lg_entry_eq]
  generalize (lg_sl ([.ref (q 0), .int x0, .int x1, .int x2, .int x3]) ++ List.replicate (7 - (lg_sl ([.ref (q 0), .int x0, .int x1, .int x2, .int x3])).length) Slot.unset).toArray = ls at hl ⊢
  have hl : lv_has ls 7 [(0, .ref (q 0)), (1, .int x0), (2, .int x1), (3, .int x2), (4, .int x3)] := hl
  refine lv_aload_n hx hb dX2_same_0 rfl (lv_at hl 0 rfl) ?_
  refine lv_iload_n hx hb dX2_same_1 rfl (lv_at hl 1 rfl) ?_
  refine lv_iload_n hx hb dX2_same_2 rfl (lv_at hl 2 rfl) ?_
  refine lv_iload_n hx hb dX2_same_3 rfl (lv_at hl 3 rfl) ?_
  refine lv_iload hx hb dX2_same_4 (lv_at hl 4 rfl) ?_
  refine xr_Vv (As := [.int x0, .int x1, .int x2, .int x3]) (rest := []) ⟨hx, hb, hml, hown, hts⟩ (k_X2_needJourney l hst D q k r S Z _ x0 x1 x2 x3 hB) (cwV 4 hts gX2_same_X2_needJourney rfl rfl rfl (by decide +kernel) ⟨by decide, by decide⟩) hX hT hZ hP hD hS hA (q0 := 0) rfl rfl rfl hl.1 rfl (Nat.le_of_ble_eq_true rfl) dX2_same_6 ⟨(Nat.le_of_ble_eq_true rfl), (Nat.le_of_ble_eq_true rfl)⟩ hno hlocks (Nat.le_of_ble_eq_true rfl) (Nat.le_of_ble_eq_true rfl) (fun _ h => h) (fun E u t _ hxe hvm hP9 hD9 hF9 => ⟨(), trivial, ⟨⟨hxe.1, cd1_1 (ok := okD S x0 x1 x2 x3) hxe.2⟩, hP9, hD9⟩, hF9⟩) (fun u_1 H locs hw_1 hP hD hS => ?_)
  obtain ⟨S_1, Z_1⟩ := u_1
  obtain ⟨e1, e2, hk_1⟩ := hw_1
  dsimp only at e1 e2 hP hD
  rw [e1, e2] at hP hD
  have hP : va_P D vwCl (wC q k r S Z) H := hP
  have hD : va_D A (wC q k r S Z) := hD
  have l1 := hk_1.2.1.lt
  have l2 := hk_1.2.2.1.lt
  have j0 := iN_toInt (x := x0) hk_1.1.1
  have j3 := iN_toInt (x := x3) hk_1.2.2.2.1
  have l0 := hk_1.1.2
  have l3 := hk_1.2.2.2.2
  have c0 : cd1 (okD S x0 x1 x2 x3) = 0 := cd1_0 hk_1
  have f11 := (hB.2.2.2.2 (iN x0)).1
  refine lv_aload_n hx hb dX2_same_9 rfl (lv_at hl 0 rfl) ?_
  refine va_get (D := D) (v := .ref (q 2)) hx hb hts hin_X2 hown hX.1 hP 0 rfl rfl 1 (by decide) hf_19 (fun _ h9 => h9) rfl dX2_same_10 ?_
  refine lv_aload_n hx hb dX2_same_13 rfl (lv_at hl 0 rfl) ?_
  refine va_get (D := D) (v := .ref (q 1)) hx hb hts hin_X2 hown hX.1 hP 0 rfl rfl 0 (by decide) hf_12 (fun _ h9 => h9) rfl dX2_same_14 ?_
  refine lv_aload_n hx hb dX2_same_17 rfl (lv_at hl 0 rfl) ?_
  refine va_get (D := D) (v := .ref (q 18)) hx hb hts hin_X2 hown hX.1 hP 0 rfl rfl 2 (by decide) hf_23 (fun _ h9 => h9) rfl dX2_same_18 ?_
  refine lv_iload_n hx hb dX2_same_21 rfl (lv_at hl 1 rfl) ?_
  refine na_as (y := nI (iN x0)) (iN_eq hk_1.1.1) ?_
  refine na_iald hx hb hX.1 hP 18 0 rfl rfl (by omega) (by decide) dX2_same_22 ?_
  refine lv_iload hx hb dX2_same_23 (lv_at hl 4 rfl) ?_
  refine na_as (y := nI (iN x3)) (iN_eq hk_1.2.2.2.1) ?_
  refine wr_Nv (As := [.ref (q 1), .int (nI (S 11 (iN x0))), .int (nI (iN x3))]) (rest := []) ⟨hx, hb, hml, hown, hts⟩ (k_X0_begin l D q k r S Z _ (S 11 (iN x0)) (iN x3) hB (by omega) (by omega)) ⟨va_cnB 3 hts gX2_same_X0_begin_n131 rfl rfl rfl (hX.2.2 ("FloorGraph", 131, yX0_begin) (by decide +kernel)) (hts (.initialized RX0) (by decide +kernel)) (by decide +kernel) ⟨by decide, by decide⟩, hts (.instanceMethod yX0_begin) (by decide +kernel), hts (.selects RX0 yX0_begin yX0_begin) (by decide +kernel)⟩ hX hP hD hS hA (q0 := 2) rfl rfl rfl hl.1 rfl (Nat.le_of_ble_eq_true rfl) dX2_same_25 ⟨Nat.le_of_ble_eq_true rfl, Nat.le_of_ble_eq_true rfl⟩ (fun u_2 H locs hw_2 hP hD hS => ?_)
  obtain ⟨S_2, Z_2⟩ := u_2
  obtain ⟨e1, e2⟩ := hw_2
  dsimp only at e1 e2 hP hD
  rw [e1, e2] at hP hD
  have hP : va_P D vwCl (wC q k r S (dvO S Z (S 11 (iN x0)) (iN x3))) H := hP
  have hD : va_D A (wC q k r S (dvO S Z (S 11 (iN x0)) (iN x3))) := hD
  refine lv_aload_n hx hb dX2_same_28 rfl (lv_at hl 0 rfl) ?_
  refine va_get (D := D) (v := .ref (q 2)) hx hb hts hin_X2 hown hX.1 hP 0 rfl rfl 1 (by decide) hf_19 (fun _ h9 => h9) rfl dX2_same_29 ?_
  refine lv_aload_n hx hb dX2_same_32 rfl (lv_at hl 0 rfl) ?_
  refine va_get (D := D) (v := .ref (q 1)) hx hb hts hin_X2 hown hX.1 hP 0 rfl rfl 0 (by decide) hf_12 (fun _ h9 => h9) rfl dX2_same_33 ?_
  refine lv_iload_n hx hb dX2_same_36 rfl (lv_at hl 2 rfl) ?_
  refine na_as (y := nI (iN x1)) (iN_eq hk_1.2.1.1) ?_
  refine wr_Nv (As := [.ref (q 1), .int (nI (iN x1))]) (rest := []) ⟨hx, hb, hml, hown, hts⟩ (k_X0_spread l D q k r S (dvO S Z (S 11 (iN x0)) (iN x3)) _ (iN x1) hB (fun p => dvO_le hZ0 p) hG l1) ⟨va_cnB 2 hts gX2_same_X0_spread_n135 rfl rfl rfl (hX.2.2 ("FloorGraph", 135, yX0_spread) (by decide +kernel)) (hts (.initialized RX0) (by decide +kernel)) (by decide +kernel) ⟨by decide, by decide⟩, hts (.instanceMethod yX0_spread) (by decide +kernel), hts (.selects RX0 yX0_spread yX0_spread) (by decide +kernel)⟩ hX hP hD hS hA (q0 := 2) rfl rfl rfl hl.1 rfl (Nat.le_of_ble_eq_true rfl) dX2_same_37 ⟨Nat.le_of_ble_eq_true rfl, Nat.le_of_ble_eq_true rfl⟩ (fun u_3 H locs hw_3 hP hD hS => ?_)
  obtain ⟨S_3, Z_3⟩ := u_3
  obtain ⟨e1, e2⟩ := hw_3
  dsimp only at e1 e2 hP hD
  rw [e1, e2] at hP hD
  have hP : va_P D vwCl (wC q k r S (dvZ S Z (S 11 (iN x0)) (iN x3) (iN x1))) H := hP
  have hD : va_D A (wC q k r S (dvZ S Z (S 11 (iN x0)) (iN x3) (iN x1))) := hD
  obtain ⟨Y, hY⟩ : ∃ X, X = dvZ S Z (S 11 (iN x0)) (iN x3) (iN x1) := ⟨_, rfl⟩
  rw [← hY] at hP hD
  have hY0 : ∀ p, Y 0 p ≤ 1 := by rw [hY]; exact fun p => dvZ_0 hZ0 p
  have hY1 : ∀ e, Y 1 e ≤ 1000000 := by rw [hY]; exact fun p => dvZ_le hG p
  have hYs : ∀ t, sTo S (oZ Y) (Y 1) (iN x1) t = secs S (S 11 (iN x0)) (iN x3) (iN x1) t := fun t => by rw [hY]; exact dvZ_s hG
  refine lv_aload_n hx hb dX2_same_40 rfl (lv_at hl 0 rfl) ?_
  refine va_get (D := D) (v := .ref (q 2)) hx hb hts hin_X2 hown hX.1 hP 0 rfl rfl 1 (by decide) hf_19 (fun _ h9 => h9) rfl dX2_same_41 ?_
  refine lv_aload_n hx hb dX2_same_44 rfl (lv_at hl 0 rfl) ?_
  refine va_get (D := D) (v := .ref (q 1)) hx hb hts hin_X2 hown hX.1 hP 0 rfl rfl 0 (by decide) hf_12 (fun _ h9 => h9) rfl dX2_same_45 ?_
  refine lv_iload_n hx hb dX2_same_48 rfl (lv_at hl 2 rfl) ?_
  refine na_as (y := nI (iN x1)) (iN_eq hk_1.2.1.1) ?_
  refine lv_iload_n hx hb dX2_same_49 rfl (lv_at hl 3 rfl) ?_
  refine na_as (y := nI (iN x2)) (iN_eq hk_1.2.2.1.1) ?_
  refine rd_N (As := [.ref (q 1), .int (nI (iN x1)), .int (nI (iN x2))]) (rest := []) ⟨hx, hb, hml, hown, hts⟩ (k_X0_secondsTo l D q k r S Y (iN x1) (iN x2) hB hY1 hY0 (by omega) (by omega)) ⟨va_cnB 3 hts gX2_same_X0_secondsTo_n146 rfl rfl rfl (hX.2.2 ("FloorGraph", 146, yX0_secondsTo) (by decide +kernel)) (hts (.initialized RX0) (by decide +kernel)) (by decide +kernel) ⟨by decide, by decide⟩, hts (.instanceMethod yX0_secondsTo) (by decide +kernel), hts (.selects RX0 yX0_secondsTo yX0_secondsTo) (by decide +kernel)⟩ hX hP (q0 := 2) rfl rfl rfl hl.1 rfl (Nat.le_of_ble_eq_true rfl) dX2_same_50 ⟨(Nat.le_of_ble_eq_true rfl), (Nat.le_of_ble_eq_true rfl)⟩ ?_
  refine na_as (y := rI (secs S (S 11 (iN x0)) (iN x3) (iN x1) (iN x2))) (congrArg rI (hYs _)) ?_
  refine lv_istore (lv' := [(5, .int (rI (secs S (S 11 (iN x0)) (iN x3) (iN x1) (iN x2)))), (0, .ref (q 0)), (1, .int x0), (2, .int x1), (3, .int x2), (4, .int x3)]) hx hb dX2_same_53 hl (by decide) rfl (fun ls hl => ?_)
  refine lv_aload_n hx hb dX2_same_55 rfl (lv_at hl 1 rfl) ?_
  refine va_get (D := D) (v := .ref (q 2)) hx hb hts hin_X2 hown hX.1 hP 0 rfl rfl 1 (by decide) hf_19 (fun _ h9 => h9) rfl dX2_same_56 ?_
  refine lv_aload_n hx hb dX2_same_59 rfl (lv_at hl 1 rfl) ?_
  refine va_get (D := D) (v := .ref (q 1)) hx hb hts hin_X2 hown hX.1 hP 0 rfl rfl 0 (by decide) hf_12 (fun _ h9 => h9) rfl dX2_same_60 ?_
  refine lv_iload_n hx hb dX2_same_63 rfl (lv_at hl 4 rfl) ?_
  refine na_as (y := nI (iN x2)) (iN_eq hk_1.2.2.1.1) ?_
  refine wr_Nv (As := [.ref (q 1), .int (nI (iN x2))]) (rest := []) ⟨hx, hb, hml, hown, hts⟩ (k_X0_spread l D q k r S Y _ (iN x2) hB hY0 hG l2) ⟨va_cnB 2 hts gX2_same_X0_spread_n135 rfl rfl rfl (hX.2.2 ("FloorGraph", 135, yX0_spread) (by decide +kernel)) (hts (.initialized RX0) (by decide +kernel)) (by decide +kernel) ⟨by decide, by decide⟩, hts (.instanceMethod yX0_spread) (by decide +kernel), hts (.selects RX0 yX0_spread yX0_spread) (by decide +kernel)⟩ hX hP hD hS hA (q0 := 2) rfl rfl rfl hl.1 rfl (Nat.le_of_ble_eq_true rfl) dX2_same_64 ⟨Nat.le_of_ble_eq_true rfl, Nat.le_of_ble_eq_true rfl⟩ (fun u_4 H locs hw_4 hP hD hS => ?_)
  obtain ⟨S_4, Z_4⟩ := u_4
  obtain ⟨e1, e2⟩ := hw_4
  dsimp only at e1 e2 hP hD
  rw [e1, e2] at hP hD
  have hP : va_P D vwCl (wC q k r S (upR Y 1 (itr S (oZ Y) (rs S (iN x2) (fun _ => 1000000)) 40))) H := hP
  have hD : va_D A (wC q k r S (upR Y 1 (itr S (oZ Y) (rs S (iN x2) (fun _ => 1000000)) 40))) := hD
  rw [hY, dvZ_2] at hP hD
  obtain ⟨V, hV⟩ : ∃ X, X = dvZ S Z (S 11 (iN x0)) (iN x3) (iN x2) := ⟨_, rfl⟩
  rw [← hV] at hP hD
  have hV0 : ∀ p, V 0 p ≤ 1 := by rw [hV]; exact fun p => dvZ_0 hZ0 p
  have hV1 : ∀ e, V 1 e ≤ 1000000 := by rw [hV]; exact fun p => dvZ_le hG p
  have hVs : ∀ t, sTo S (oZ V) (V 1) (iN x2) t = secs S (S 11 (iN x0)) (iN x3) (iN x2) t := fun t => by rw [hV]; exact dvZ_s hG
  refine lv_aload_n hx hb dX2_same_67 rfl (lv_at hl 1 rfl) ?_
  refine va_get (D := D) (v := .ref (q 2)) hx hb hts hin_X2 hown hX.1 hP 0 rfl rfl 1 (by decide) hf_19 (fun _ h9 => h9) rfl dX2_same_68 ?_
  refine lv_aload_n hx hb dX2_same_71 rfl (lv_at hl 1 rfl) ?_
  refine va_get (D := D) (v := .ref (q 1)) hx hb hts hin_X2 hown hX.1 hP 0 rfl rfl 0 (by decide) hf_12 (fun _ h9 => h9) rfl dX2_same_72 ?_
  refine lv_iload_n hx hb dX2_same_75 rfl (lv_at hl 4 rfl) ?_
  refine na_as (y := nI (iN x2)) (iN_eq hk_1.2.2.1.1) ?_
  refine lv_iload_n hx hb dX2_same_76 rfl (lv_at hl 3 rfl) ?_
  refine na_as (y := nI (iN x1)) (iN_eq hk_1.2.1.1) ?_
  refine rd_N (As := [.ref (q 1), .int (nI (iN x2)), .int (nI (iN x1))]) (rest := []) ⟨hx, hb, hml, hown, hts⟩ (k_X0_secondsTo l D q k r S V (iN x2) (iN x1) hB hV1 hV0 (by omega) (by omega)) ⟨va_cnB 3 hts gX2_same_X0_secondsTo_n146 rfl rfl rfl (hX.2.2 ("FloorGraph", 146, yX0_secondsTo) (by decide +kernel)) (hts (.initialized RX0) (by decide +kernel)) (by decide +kernel) ⟨by decide, by decide⟩, hts (.instanceMethod yX0_secondsTo) (by decide +kernel), hts (.selects RX0 yX0_secondsTo yX0_secondsTo) (by decide +kernel)⟩ hX hP (q0 := 2) rfl rfl rfl hl.1 rfl (Nat.le_of_ble_eq_true rfl) dX2_same_77 ⟨(Nat.le_of_ble_eq_true rfl), (Nat.le_of_ble_eq_true rfl)⟩ ?_
  refine na_as (y := rI (secs S (S 11 (iN x0)) (iN x3) (iN x2) (iN x1))) (congrArg rI (hVs _)) ?_
  refine lv_istore (lv' := [(6, .int (rI (secs S (S 11 (iN x0)) (iN x3) (iN x2) (iN x1)))), (5, .int (rI (secs S (S 11 (iN x0)) (iN x3) (iN x1) (iN x2)))), (0, .ref (q 0)), (1, .int x0), (2, .int x1), (3, .int x2), (4, .int x3)]) hx hb dX2_same_80 hl (by decide) rfl (fun ls hl => ?_)
  refine lv_iload hx hb dX2_same_82 (lv_at hl 1 rfl) ?_
  refine lv_iload hx hb dX2_same_84 (lv_at hl 0 rfl) ?_
  refine nzz_icmp_ne (tgt := 93) hx hb (by have := secs_le (S := S) (w := S 11 (iN x0)) (h := iN x3) (a := iN x1) (t := iN x2); have := secs_le (S := S) (w := S 11 (iN x0)) (h := iN x3) (a := iN x2) (t := iN x1); omega) (by have := secs_le (S := S) (w := S 11 (iN x0)) (h := iN x3) (a := iN x1) (t := iN x2); have := secs_le (S := S) (w := S 11 (iN x0)) (h := iN x3) (a := iN x2) (t := iN x1); omega) dX2_same_86 (by decide) (fun h_86 => ?_) (fun h_86 => ?_)
  · skip
    refine lv_iconst (v := nI 0) hx hb dX2_same_93 (by decide) ?_
    refine vx_ret (W.widen (k := 3) (n := 18) (Nat.le_of_ble_eq_true rfl) (Nat.le_of_ble_eq_true rfl) ?_)
    exact W.zret (v := nI 0) hx hb hr (nar_b _ (by first | decide | omega | exact bN_le _)) (fun t ht hW => ⟨⟨_, (S, V), rfl, ⟨c0, bN0 (decide_eq_false h_86), rfl, by rw [hV]; exact ZR_d hZ0 hZ2⟩, by rw [ht]; exact hP, hD⟩, hS.F ht⟩) hS.2.2 dX2_same_94
  · skip
    refine lv_iconst (v := nI 1) hx hb dX2_same_89 (by decide) ?_
    refine lv_goto (tgt := 94) hx hb dX2_same_90 (by decide) ?_
    refine vx_ret (W.widen (k := 3) (n := 18) (Nat.le_of_ble_eq_true rfl) (Nat.le_of_ble_eq_true rfl) ?_)
    exact W.zret (v := nI 1) hx hb hr (nar_b _ (by first | decide | omega | exact bN_le _)) (fun t ht hW => ⟨⟨_, (S, V), rfl, ⟨c0, bN1 (decide_eq_true h_86), rfl, by rw [hV]; exact ZR_d hZ0 hZ2⟩, by rw [ht]; exact hP, hD⟩, hS.F ht⟩) hS.2.2 dX2_same_94

set_option maxHeartbeats 4000000 in
set_option maxRecDepth 100000 in
theorem k_X2_nearest (l : Launch) (hst : l.stackTraces = false) (D : va_G) (q : Nat → Nat) (k : Nat → ClassId) (r : Nat → Nat) (S Z : Nat → Nat → Nat) (sz : Nat) (x0 : Int32) (x1 : Int32) (x2 : Int32) (hB : Bd S) (hZ0 : ∀ p, Z 0 p ≤ 1) (hZ2 : ∀ p, Z 2 p ≤ 1) (hGw : Gw S) : vx_Met l yX2_nearest wsX2_nearest ({ frames := 8, cells := 3, slots := 18, locals := 135 } : Room) (va_Pc [.ref (q 0), .int x0, .int x1, .int x2] (tB D k (wC q k r S Z) sz)) (va_Qi (fun (r : Int32) (u : (Nat → Nat → Nat) × (Nat → Nat → Nat)) => cd1 (okD S x0 x1 x1 x2) = 0 ∧ r = pI (nrB S (S 11 (iN x0)) (iN x2) (iN x1) (S 0 0)).1 ∧ u.1 = S ∧ ZR Z u.2) (fun u t => wE D (va_A (wC q k r S Z) sz) (wC q k r u.1 u.2) t) (va_A (wC q k r S Z) sz)) (vx_X (fun _ : Unit => True) (fun E _ t => (E = eIA ∧ cd1 (okD S x0 x1 x1 x2) = 1) ∧ wE D (va_A (wC q k r S Z) sz) (wC q k r S Z) t) (va_A (wC q k r S Z) sz)) 3 18 (va_A (wC q k r S Z) sz) := by
  refine vx_ofW (cc := cX2_nearest) (maxL := 8) (ret := (some .int)) (by decide) rfl ?_
  intro p e s m args below meth c s₁ B hml hno hv
  obtain ⟨rfl, ⟨hsz, hP, hX, hD0⟩, hT, hZ⟩ := hv
  have hx := B.exec
  have hb := B.bytes
  have hr := B.returns
  have hts := atoms_spec (ws := wsX2_nearest) B.pre
  have hown : s.vm.findClass RX2 = some m.cls := findClass_of_methodNamed B.named
  have hlocks := B.notSynchronized
  subst hsz
  have hD := hD0.self (sz := s.heap.size)
  generalize hAe : va_A (wC q k r S Z) s.heap.size = A at hD hZ ⊢
  have hA : ∀ q : Nat, s.heap.size ≤ q → A q := fun q h => by rw [← hAe]; exact Or.inr h
  have hS : va_S A s.heap s.heap [] := va_S.rf
  have hP : va_P D vwCl (wC q k r S Z) s.heap := hP
  have hf_12 := hts (.fieldLink RX2 12 "FloorGraph" "floor" "LFloorGraph$Floor;") (by decide +kernel)
  have hf_19 := hts (.fieldLink RX2 19 "FloorGraph" "drive" "LFloorGraph$Drive;") (by decide +kernel)
  have hf_23 := hts (.fieldLink RX2 23 "FloorGraph" "robotWidths" "[I") (by decide +kernel)
  have hf_50 : (Cond.fieldLinkNest "FloorGraph" 50 "FloorGraph$Floor" "pieces" "I" "FloorGraph").before _ s = true := va_Nw.use (A := [.ref (q 0), .int x0, .int x1, .int x2].toArray) rfl (hX.2.1 ("FloorGraph", 50, "FloorGraph$Floor", "pieces", "I", "FloorGraph") (by decide +kernel))
  have hin_X1 : ∀ w ∈ u_ws RX1 TX1 14, w ∈ wsX2_nearest := by decide +kernel
  have hin_X2 : ∀ w ∈ u_ws RX2 TX2 12, w ∈ wsX2_nearest := by decide +kernel
  have f0 := hB.1
  have hG := hGw.1
  have hl := lv_entry ([.ref (q 0), .int x0, .int x1, .int x2]) (n := 8) (Nat.le_of_ble_eq_true rfl)
  rw [lg_entry_eq]
  generalize (lg_sl ([.ref (q 0), .int x0, .int x1, .int x2]) ++ List.replicate (8 - (lg_sl ([.ref (q 0), .int x0, .int x1, .int x2])).length) Slot.unset).toArray = ls at hl ⊢
  have hl : lv_has ls 8 [(0, .ref (q 0)), (1, .int x0), (2, .int x1), (3, .int x2)] := hl
  refine lv_aload_n hx hb dX2_nearest_0 rfl (lv_at hl 0 rfl) ?_
  refine lv_iload_n hx hb dX2_nearest_1 rfl (lv_at hl 1 rfl) ?_
  refine lv_iload_n hx hb dX2_nearest_2 rfl (lv_at hl 2 rfl) ?_
  refine lv_iload_n hx hb dX2_nearest_3 rfl (lv_at hl 2 rfl) ?_
  refine lv_iload_n hx hb dX2_nearest_4 rfl (lv_at hl 3 rfl) ?_
  refine xr_Vv (As := [.int x0, .int x1, .int x1, .int x2]) (rest := []) ⟨hx, hb, hml, hown, hts⟩ (k_X2_needJourney l hst D q k r S Z _ x0 x1 x1 x2 hB) (cwV 4 hts gX2_nearest_X2_needJourney rfl rfl rfl (by decide +kernel) ⟨by decide, by decide⟩) hX hT hZ hP hD hS hA (q0 := 0) rfl rfl rfl hl.1 rfl (Nat.le_of_ble_eq_true rfl) dX2_nearest_5 ⟨(Nat.le_of_ble_eq_true rfl), (Nat.le_of_ble_eq_true rfl)⟩ hno hlocks (Nat.le_of_ble_eq_true rfl) (Nat.le_of_ble_eq_true rfl) (fun _ h => h) (fun E u t _ hxe hvm hP9 hD9 hF9 => ⟨(), trivial, ⟨⟨hxe.1, cd1_1 (ok := okD S x0 x1 x1 x2) hxe.2⟩, hP9, hD9⟩, hF9⟩) (fun u_1 H locs hw_1 hP hD hS => ?_)
  obtain ⟨S_1, Z_1⟩ := u_1
  obtain ⟨e1, e2, hk_1⟩ := hw_1
  dsimp only at e1 e2 hP hD
  rw [e1, e2] at hP hD
  have hP : va_P D vwCl (wC q k r S Z) H := hP
  have hD : va_D A (wC q k r S Z) := hD
  have l1 := hk_1.2.1.lt
  have j0 := iN_toInt (x := x0) hk_1.1.1
  have j3 := iN_toInt (x := x2) hk_1.2.2.2.1
  have l0 := hk_1.1.2
  have l3 := hk_1.2.2.2.2
  have c0 : cd1 (okD S x0 x1 x1 x2) = 0 := cd1_0 hk_1
  have f11 := (hB.2.2.2.2 (iN x0)).1
  refine lv_aload_n hx hb dX2_nearest_8 rfl (lv_at hl 0 rfl) ?_
  refine va_get (D := D) (v := .ref (q 2)) hx hb hts hin_X2 hown hX.1 hP 0 rfl rfl 1 (by decide) hf_19 (fun _ h9 => h9) rfl dX2_nearest_9 ?_
  refine lv_aload_n hx hb dX2_nearest_12 rfl (lv_at hl 0 rfl) ?_
  refine va_get (D := D) (v := .ref (q 1)) hx hb hts hin_X2 hown hX.1 hP 0 rfl rfl 0 (by decide) hf_12 (fun _ h9 => h9) rfl dX2_nearest_13 ?_
  refine lv_aload_n hx hb dX2_nearest_16 rfl (lv_at hl 0 rfl) ?_
  refine va_get (D := D) (v := .ref (q 18)) hx hb hts hin_X2 hown hX.1 hP 0 rfl rfl 2 (by decide) hf_23 (fun _ h9 => h9) rfl dX2_nearest_17 ?_
  refine lv_iload_n hx hb dX2_nearest_20 rfl (lv_at hl 1 rfl) ?_
  refine na_as (y := nI (iN x0)) (iN_eq hk_1.1.1) ?_
  refine na_iald hx hb hX.1 hP 18 0 rfl rfl (by omega) (by decide) dX2_nearest_21 ?_
  refine lv_iload_n hx hb dX2_nearest_22 rfl (lv_at hl 3 rfl) ?_
  refine na_as (y := nI (iN x2)) (iN_eq hk_1.2.2.2.1) ?_
  refine wr_Nv (As := [.ref (q 1), .int (nI (S 11 (iN x0))), .int (nI (iN x2))]) (rest := []) ⟨hx, hb, hml, hown, hts⟩ (k_X0_begin l D q k r S Z _ (S 11 (iN x0)) (iN x2) hB (by omega) (by omega)) ⟨va_cnB 3 hts gX2_nearest_X0_begin_n131 rfl rfl rfl (hX.2.2 ("FloorGraph", 131, yX0_begin) (by decide +kernel)) (hts (.initialized RX0) (by decide +kernel)) (by decide +kernel) ⟨by decide, by decide⟩, hts (.instanceMethod yX0_begin) (by decide +kernel), hts (.selects RX0 yX0_begin yX0_begin) (by decide +kernel)⟩ hX hP hD hS hA (q0 := 2) rfl rfl rfl hl.1 rfl (Nat.le_of_ble_eq_true rfl) dX2_nearest_23 ⟨Nat.le_of_ble_eq_true rfl, Nat.le_of_ble_eq_true rfl⟩ (fun u_2 H locs hw_2 hP hD hS => ?_)
  obtain ⟨S_2, Z_2⟩ := u_2
  obtain ⟨e1, e2⟩ := hw_2
  dsimp only at e1 e2 hP hD
  rw [e1, e2] at hP hD
  have hP : va_P D vwCl (wC q k r S (dvO S Z (S 11 (iN x0)) (iN x2))) H := hP
  have hD : va_D A (wC q k r S (dvO S Z (S 11 (iN x0)) (iN x2))) := hD
  refine lv_aload_n hx hb dX2_nearest_26 rfl (lv_at hl 0 rfl) ?_
  refine va_get (D := D) (v := .ref (q 2)) hx hb hts hin_X2 hown hX.1 hP 0 rfl rfl 1 (by decide) hf_19 (fun _ h9 => h9) rfl dX2_nearest_27 ?_
  refine lv_aload_n hx hb dX2_nearest_30 rfl (lv_at hl 0 rfl) ?_
  refine va_get (D := D) (v := .ref (q 1)) hx hb hts hin_X2 hown hX.1 hP 0 rfl rfl 0 (by decide) hf_12 (fun _ h9 => h9) rfl dX2_nearest_31 ?_
  refine lv_iload_n hx hb dX2_nearest_34 rfl (lv_at hl 2 rfl) ?_
  refine na_as (y := nI (iN x1)) (iN_eq hk_1.2.1.1) ?_
  refine wr_Nv (As := [.ref (q 1), .int (nI (iN x1))]) (rest := []) ⟨hx, hb, hml, hown, hts⟩ (k_X0_spread l D q k r S (dvO S Z (S 11 (iN x0)) (iN x2)) _ (iN x1) hB (fun p => dvO_le hZ0 p) hG l1) ⟨va_cnB 2 hts gX2_nearest_X0_spread_n135 rfl rfl rfl (hX.2.2 ("FloorGraph", 135, yX0_spread) (by decide +kernel)) (hts (.initialized RX0) (by decide +kernel)) (by decide +kernel) ⟨by decide, by decide⟩, hts (.instanceMethod yX0_spread) (by decide +kernel), hts (.selects RX0 yX0_spread yX0_spread) (by decide +kernel)⟩ hX hP hD hS hA (q0 := 2) rfl rfl rfl hl.1 rfl (Nat.le_of_ble_eq_true rfl) dX2_nearest_35 ⟨Nat.le_of_ble_eq_true rfl, Nat.le_of_ble_eq_true rfl⟩ (fun u_3 H locs hw_3 hP hD hS => ?_)
  obtain ⟨S_3, Z_3⟩ := u_3
  obtain ⟨e1, e2⟩ := hw_3
  dsimp only at e1 e2 hP hD
  rw [e1, e2] at hP hD
  have hP : va_P D vwCl (wC q k r S (dvZ S Z (S 11 (iN x0)) (iN x2) (iN x1))) H := hP
  have hD : va_D A (wC q k r S (dvZ S Z (S 11 (iN x0)) (iN x2) (iN x1))) := hD
  obtain ⟨Y, hY⟩ : ∃ X, X = dvZ S Z (S 11 (iN x0)) (iN x2) (iN x1) := ⟨_, rfl⟩
  rw [← hY] at hP hD
  have hY0 : ∀ p, Y 0 p ≤ 1 := by rw [hY]; exact fun p => dvZ_0 hZ0 p
  have hY1 : ∀ e, Y 1 e ≤ 1000000 := by rw [hY]; exact fun p => dvZ_le hG p
  have hYs : ∀ t, sTo S (oZ Y) (Y 1) (iN x1) t = secs S (S 11 (iN x0)) (iN x2) (iN x1) t := fun t => by rw [hY]; exact dvZ_s hG
  refine lv_iconst (v := pI 0) hx hb dX2_nearest_38 (by decide) ?_
  refine lv_istore (lv' := [(4, .int (pI 0)), (0, .ref (q 0)), (1, .int x0), (2, .int x1), (3, .int x2)]) hx hb dX2_nearest_39 hl (by decide) rfl (fun ls hl => ?_)
  refine lv_ldc (v := nI 1000000) hx hb hown (hts (.constant RX2 163 (1000000)) (by decide +kernel)) dX2_nearest_41 ?_
  refine lv_istore (lv' := [(5, .int (nI 1000000)), (4, .int (pI 0)), (0, .ref (q 0)), (1, .int x0), (2, .int x1), (3, .int x2)]) hx hb dX2_nearest_43 hl (by decide) rfl (fun ls hl => ?_)
  refine lv_iconst (v := nI 0) hx hb dX2_nearest_45 (by decide) ?_
  refine lv_istore (lv' := [(6, .int (nI 0)), (5, .int (nI 1000000)), (4, .int (pI 0)), (0, .ref (q 0)), (1, .int x0), (2, .int x1), (3, .int x2)]) hx hb dX2_nearest_46 hl (by decide) rfl (fun ls hl => ?_)
  have L48 : ∀ (n48 : Nat) (i : Nat) (b : Nat) (x : Nat), (S 0 0 < i + n48) → (h1 : i ≤ S 0 0) → (h3 : nrB S (S 11 (iN x0)) (iN x2) (iN x1) i = (b, x)) → ∀ (H : Heap) (locs : List Loc), va_P D vwCl (wC q k r S Y) H → va_D A (wC q k r S Y) → va_S A s.heap H locs → ∀ (ls : Array Slot), lv_has ls 8 [(6, .int (nI i)), (5, .int (nI x)), (4, .int (pI b)), (0, .ref (q 0)), (1, .int x0), (2, .int x1), (3, .int x2)] → W p l e (headSpec wsX2_nearest ({ frames := 8, cells := 3, slots := 18, locals := 135 } : Room)).room s m [.ref (q 0), .int x0, .int x1, .int x2].toArray below meth c H locs 3 18 (vx_MQ below (va_Qi (fun (r : Int32) (u : (Nat → Nat → Nat) × (Nat → Nat → Nat)) => cd1 (okD S x0 x1 x1 x2) = 0 ∧ r = pI (nrB S (S 11 (iN x0)) (iN x2) (iN x1) (S 0 0)).1 ∧ u.1 = S ∧ ZR Z u.2) (fun u t => wE D (A) (wC q k r u.1 u.2) t) (A)) (vx_X (fun _ : Unit => True) (fun E _ t => (E = eIA ∧ cd1 (okD S x0 x1 x1 x2) = 1) ∧ wE D (A) (wC q k r S Z) t) (A)) [.ref (q 0), .int x0, .int x1, .int x2].toArray s 3 18 A) (F0 m 48 ls []) := by
    intro n48
    induction n48 with
    | zero =>
      intro i b x hfuel48 h1 h3 H locs hP hD hS ls hl
      exact absurd hfuel48 (by omega)
    | succ n48 ih48 =>
      intro i b x hfuel48 h1 h3 H locs hP hD hS ls hl
      have fsl := secs_le (S := S) (w := S 11 (iN x0)) (h := iN x2) (a := iN x1) (t := i)
      have f3 := nrB_ok (S := S) (w := S 11 (iN x0)) (h := iN x2) (a := iN x1) i
      rw [h3] at f3
      dsimp only at f3
      refine lv_iload hx hb dX2_nearest_48 (lv_at hl 0 rfl) ?_
      refine lv_aload_n hx hb dX2_nearest_50 rfl (lv_at hl 3 rfl) ?_
      refine va_get (D := D) (v := .ref (q 1)) hx hb hts hin_X2 hown hX.1 hP 0 rfl rfl 0 (by decide) hf_12 (fun _ h9 => h9) rfl dX2_nearest_51 ?_
      refine va_getN (D := D) (v := .int (nI (S 0 0))) hx hb hts hin_X1 hown hX.1 hP 1 rfl rfl 0 (by decide) hf_50 (fun _ h9 => h9) rfl dX2_nearest_54 ?_
      refine na_icmp_ge (tgt := 112) hx hb (by omega) (by omega) dX2_nearest_57 (by decide) (fun h_57 => ?_) (fun h_57 => ?_)
      · skip
        refine lv_iload hx hb dX2_nearest_112 (lv_at hl 2 rfl) ?_
        refine vx_ret (W.widen (k := 3) (n := 18) (Nat.le_of_ble_eq_true rfl) (Nat.le_of_ble_eq_true rfl) ?_)
        exact W.iret (v := pI b) hx hb hr (fun t ht hW => ⟨⟨_, (S, Y), rfl, ⟨c0, by rw [← show i = S 0 0 by omega, h3], rfl, by rw [hY]; exact ZR_d hZ0 hZ2⟩, by rw [ht]; exact hP, hD⟩, hS.F ht⟩) hS.2.2 dX2_nearest_114
      · skip
        refine lv_aload_n hx hb dX2_nearest_60 rfl (lv_at hl 3 rfl) ?_
        refine lv_iload hx hb dX2_nearest_61 (lv_at hl 0 rfl) ?_
        refine rd_V (As := [.int (nI i)]) (rest := []) ⟨hx, hb, hml, hown, hts⟩ (k_X2_hasCharger l D q k r S Y i hB (by omega)) (cwV 1 hts gX2_nearest_X2_hasCharger rfl rfl rfl (by decide +kernel) ⟨by decide, by decide⟩) hX hP (q0 := 0) rfl rfl rfl hl.1 rfl (Nat.le_of_ble_eq_true rfl) dX2_nearest_63 ⟨(Nat.le_of_ble_eq_true rfl), (Nat.le_of_ble_eq_true rfl)⟩ ?_
        refine na_if_eq (tgt := 106) hx hb (bN_lt _) dX2_nearest_66 (by decide) (fun h_66 => ?_) (fun h_66 => ?_)
        · skip
          refine lv_iinc (v := nI (i + 1)) (lv' := [(6, .int (nI (i + 1))), (5, .int (nI x)), (4, .int (pI b)), (0, .ref (q 0)), (1, .int x0), (2, .int x1), (3, .int x2)]) hx hb dX2_nearest_106 hl (k := 0) rfl (nI_add _ 1) (by decide) rfl (fun ls hl => ?_)
          refine lv_goto (tgt := 48) hx hb dX2_nearest_109 (by decide) ?_
          exact ih48 (i + 1) b x (by omega) (by omega) (by first | exact nrB_n h3 (fun q => absurd q.1 (bN_no h_66)) | exact nrB_n h3 (fun q => absurd q.2 (by omega)) | exact nrB_y h3 (bN_pos h_66) (by omega)) _ _ hP hD hS ls hl
        · skip
          refine lv_aload_n hx hb dX2_nearest_69 rfl (lv_at hl 3 rfl) ?_
          refine va_get (D := D) (v := .ref (q 2)) hx hb hts hin_X2 hown hX.1 hP 0 rfl rfl 1 (by decide) hf_19 (fun _ h9 => h9) rfl dX2_nearest_70 ?_
          refine lv_aload_n hx hb dX2_nearest_73 rfl (lv_at hl 3 rfl) ?_
          refine va_get (D := D) (v := .ref (q 1)) hx hb hts hin_X2 hown hX.1 hP 0 rfl rfl 0 (by decide) hf_12 (fun _ h9 => h9) rfl dX2_nearest_74 ?_
          refine lv_iload_n hx hb dX2_nearest_77 rfl (lv_at hl 5 rfl) ?_
          refine na_as (y := nI (iN x1)) (iN_eq hk_1.2.1.1) ?_
          refine lv_iload hx hb dX2_nearest_78 (lv_at hl 0 rfl) ?_
          refine rd_N (As := [.ref (q 1), .int (nI (iN x1)), .int (nI i)]) (rest := []) ⟨hx, hb, hml, hown, hts⟩ (k_X0_secondsTo l D q k r S Y (iN x1) i hB hY1 hY0 (by omega) (by omega)) ⟨va_cnB 3 hts gX2_nearest_X0_secondsTo_n146 rfl rfl rfl (hX.2.2 ("FloorGraph", 146, yX0_secondsTo) (by decide +kernel)) (hts (.initialized RX0) (by decide +kernel)) (by decide +kernel) ⟨by decide, by decide⟩, hts (.instanceMethod yX0_secondsTo) (by decide +kernel), hts (.selects RX0 yX0_secondsTo yX0_secondsTo) (by decide +kernel)⟩ hX hP (q0 := 2) rfl rfl rfl hl.1 rfl (Nat.le_of_ble_eq_true rfl) dX2_nearest_80 ⟨(Nat.le_of_ble_eq_true rfl), (Nat.le_of_ble_eq_true rfl)⟩ ?_
          refine na_as (y := rI (secs S (S 11 (iN x0)) (iN x2) (iN x1) i)) (congrArg rI (hYs _)) ?_
          refine lv_istore (lv' := [(7, .int (rI (secs S (S 11 (iN x0)) (iN x2) (iN x1) i))), (6, .int (nI i)), (5, .int (nI x)), (4, .int (pI b)), (0, .ref (q 0)), (1, .int x0), (2, .int x1), (3, .int x2)]) hx hb dX2_nearest_83 hl (by decide) rfl (fun ls hl => ?_)
          refine lv_iload hx hb dX2_nearest_85 (lv_at hl 0 rfl) ?_
          refine lv_iconst (v := pI 0) hx hb dX2_nearest_87 (by decide) ?_
          refine nz_icmp_eq (tgt := 106) hx hb (by omega) dX2_nearest_88 (by decide) (fun h_88 => ?_) (fun h_88 => ?_)
          · skip
            refine lv_iinc (v := nI (i + 1)) (lv' := [(6, .int (nI (i + 1))), (7, .int (rI (secs S (S 11 (iN x0)) (iN x2) (iN x1) i))), (5, .int (nI x)), (4, .int (pI b)), (0, .ref (q 0)), (1, .int x0), (2, .int x1), (3, .int x2)]) hx hb dX2_nearest_106 hl (k := 1) rfl (nI_add _ 1) (by decide) rfl (fun ls hl => ?_)
            refine lv_goto (tgt := 48) hx hb dX2_nearest_109 (by decide) ?_
            exact ih48 (i + 1) b x (by omega) (by omega) (by first | exact nrB_n h3 (fun q => absurd q.1 (bN_no h_66)) | exact nrB_n h3 (fun q => absurd q.2 (by omega)) | exact nrB_y h3 (bN_pos h_66) (by omega)) _ _ hP hD hS ls (lv_sub hl [0, 2, 3, 4, 5, 6, 7] rfl)
          · skip
            refine lv_iload hx hb dX2_nearest_91 (lv_at hl 0 rfl) ?_
            refine na_as (y := nI (secs S (S 11 (iN x0)) (iN x2) (iN x1) i)) (rI_some h_88) ?_
            refine lv_iload hx hb dX2_nearest_93 (lv_at hl 2 rfl) ?_
            refine na_icmp_ge (tgt := 106) hx hb (by omega) (by omega) dX2_nearest_95 (by decide) (fun h_95 => ?_) (fun h_95 => ?_)
            · skip
              refine lv_iinc (v := nI (i + 1)) (lv' := [(6, .int (nI (i + 1))), (7, .int (rI (secs S (S 11 (iN x0)) (iN x2) (iN x1) i))), (5, .int (nI x)), (4, .int (pI b)), (0, .ref (q 0)), (1, .int x0), (2, .int x1), (3, .int x2)]) hx hb dX2_nearest_106 hl (k := 1) rfl (nI_add _ 1) (by decide) rfl (fun ls hl => ?_)
              refine lv_goto (tgt := 48) hx hb dX2_nearest_109 (by decide) ?_
              exact ih48 (i + 1) b x (by omega) (by omega) (by first | exact nrB_n h3 (fun q => absurd q.1 (bN_no h_66)) | exact nrB_n h3 (fun q => absurd q.2 (by omega)) | exact nrB_y h3 (bN_pos h_66) (by omega)) _ _ hP hD hS ls (lv_sub hl [0, 2, 3, 4, 5, 6, 7] rfl)
            · skip
              refine lv_iload hx hb dX2_nearest_98 (lv_at hl 1 rfl) ?_
              refine na_as (y := pI (i + 1)) (pI_s i) ?_
              refine lv_istore (lv' := [(4, .int (pI (i + 1))), (7, .int (rI (secs S (S 11 (iN x0)) (iN x2) (iN x1) i))), (6, .int (nI i)), (5, .int (nI x)), (0, .ref (q 0)), (1, .int x0), (2, .int x1), (3, .int x2)]) hx hb dX2_nearest_100 hl (by decide) rfl (fun ls hl => ?_)
              refine lv_iload hx hb dX2_nearest_102 (lv_at hl 1 rfl) ?_
              refine na_as (y := nI (secs S (S 11 (iN x0)) (iN x2) (iN x1) i)) (rI_some h_88) ?_
              refine lv_istore (lv' := [(5, .int (nI (secs S (S 11 (iN x0)) (iN x2) (iN x1) i))), (4, .int (pI (i + 1))), (7, .int (rI (secs S (S 11 (iN x0)) (iN x2) (iN x1) i))), (6, .int (nI i)), (0, .ref (q 0)), (1, .int x0), (2, .int x1), (3, .int x2)]) hx hb dX2_nearest_104 hl (by decide) rfl (fun ls hl => ?_)
              refine lv_iinc (v := nI (i + 1)) (lv' := [(6, .int (nI (i + 1))), (5, .int (nI (secs S (S 11 (iN x0)) (iN x2) (iN x1) i))), (4, .int (pI (i + 1))), (7, .int (rI (secs S (S 11 (iN x0)) (iN x2) (iN x1) i))), (0, .ref (q 0)), (1, .int x0), (2, .int x1), (3, .int x2)]) hx hb dX2_nearest_106 hl (k := 3) rfl (nI_add _ 1) (by decide) rfl (fun ls hl => ?_)
              refine lv_goto (tgt := 48) hx hb dX2_nearest_109 (by decide) ?_
              exact ih48 (i + 1) ((i + 1)) ((secs S (S 11 (iN x0)) (iN x2) (iN x1) i)) (by omega) (by omega) (by first | exact nrB_n h3 (fun q => absurd q.1 (bN_no h_66)) | exact nrB_n h3 (fun q => absurd q.2 (by omega)) | exact nrB_y h3 (bN_pos h_66) (by omega)) _ _ hP hD hS ls (lv_sub hl [0, 1, 2, 4, 5, 6, 7] rfl)
  exact L48 (S 0 0 + 1) 0 0 1000000 (by omega) (by omega) rfl _ _ hP hD hS ls hl
