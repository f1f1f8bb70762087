set_option maxHeartbeats 4000000 in
set_option maxRecDepth 100000 in
theorem k_X3_lower (l : Launch) (D : va_G) (q : Nat → Nat) (k : Nat → ClassId) (S Z : Nat → Nat → Nat) (sz : Nat) (b0 : Nat) (j0 : Nat) (d0 : Nat) (h0 : Nat) (hB : Bd S) (hJ : Jn S) (hR : Rb (Z 1)) (hb0 : b0 < 6) (hj : 2 * j0 + d0 < S 0 1) (hd : d0 < 2) (hh : h0 < 24) : Met l yX3_lower wsX3_lower ({ frames := 3, cells := 0, slots := 0, locals := 72 } : Room) (va_Pc [.ref (q 0), .int (nI b0), .int (nI j0), .int (nI d0), .int (nI h0)] (wB D k (wM q k S Z) sz)) (va_Qi (fun (r : Int32) (u : (Nat → Nat → Nat) × (Nat → Nat → Nat)) => r = nI (bN (decide (sBh S (opn S (S 11 b0) h0) (Z 1) (2 * j0 + d0) < Z 1 (fl (S 8 (2 * j0 + d0)))))) ∧ u.1 = S ∧ u.2 = upR Z 1 (rlx S (opn S (S 11 b0) h0) (Z 1) (2 * j0 + d0))) (fun u t => wE D (va_A (wM q k S Z) sz) (wM q k u.1 u.2) t) (va_A (wM q k S Z) sz)) 0 0 (va_A (wM q k S Z) sz) := by
  refine Met.ofW (cc := cX3_lower) (maxL := 7) (ret := (some .boolean)) (by decide) rfl ?_
  intro p e s m args below meth c s₁ B hml hv
  obtain ⟨rfl, hsz, hP, hX, hD0⟩ := hv
  have hx := B.exec
  have hb := B.bytes
  have hr := B.returns
  have hts := atoms_spec (ws := wsX3_lower) B.pre
  have hown : s.vm.findClass RX3 = some m.cls := findClass_of_methodNamed B.named
  have hlocks := B.notSynchronized
  subst hsz
  have hD := hD0.self (sz := s.heap.size)
  generalize hAe : va_A (wM q k S Z) s.heap.size = A at hD ⊢
  have hA : ∀ q : Nat, s.heap.size ≤ q → A q := fun q h => by rw [← hAe]; exact Or.inr h
  have hS : va_S A s.heap s.heap [] := va_S.rf
  have hP : va_P D vwCl (wM q k S Z) s.heap := hP
  have hf_50 := hts (.fieldLink RX3 50 "FloorGraphModel" "reached" "[I") (by decide +kernel)
  have hin_X3 : ∀ w ∈ u_ws RX3 TX3 24, w ∈ wsX3_lower := by decide +kernel
  have f0 := hB.1
  have f7 := hB.2.2.2.1 (2 * j0 + d0) hj
  have ff0 : fl (S 8 (2 * j0 + d0)) < 2 * 20 := fl_lt (by omega)
  have fr := hR (fl (S 8 (2 * j0 + d0)))
  have fs := sBh_le (fun p => (hB.2.2.1 p).1) (fun i => (hB.2.1 i).2.1) hR.le (o := opn S (S 11 b0) h0) (2 * j0 + d0)
  have fb := sBh_b (fun p => (hB.2.2.1 p).1) (fun i => (hB.2.1 i).2.1) hR (o := opn S (S 11 b0) h0) (2 * j0 + d0)
  have hl := lv_entry ([.ref (q 0), .int (nI b0), .int (nI j0), .int (nI d0), .int (nI h0)]) (n := 7) (Nat.le_of_ble_eq_true rfl)
  rw [lg_entry_eq]
  generalize (lg_sl ([.ref (q 0), .int (nI b0), .int (nI j0), .int (nI d0), .int (nI h0)]) ++ List.replicate (7 - (lg_sl ([.ref (q 0), .int (nI b0), .int (nI j0), .int (nI d0), .int (nI h0)])).length) Slot.unset).toArray = ls at hl ⊢
  have hl : lv_has ls 7 [(0, .ref (q 0)), (1, .int (nI b0)), (2, .int (nI j0)), (3, .int (nI d0)), (4, .int (nI h0))] := hl
  refine lv_aload_n hx hb dX3_lower_0 rfl (lv_at hl 0 rfl) ?_
  refine lv_iload_n hx hb dX3_lower_1 rfl (lv_at hl 1 rfl) ?_
  refine lv_iload_n hx hb dX3_lower_2 rfl (lv_at hl 2 rfl) ?_
  refine lv_iload_n hx hb dX3_lower_3 rfl (lv_at hl 3 rfl) ?_
  refine lv_iload hx hb dX3_lower_4 (lv_at hl 4 rfl) ?_
  refine rd_V (As := [.int (nI b0), .int (nI j0), .int (nI d0), .int (nI h0)]) (rest := []) ⟨hx, hb, hml, hown, hts⟩ (k_X3_through l D q k S Z b0 j0 d0 h0 hB hJ hR hb0 hj hd hh) (cwV 4 hts gX3_lower_X3_through rfl rfl rfl (by decide +kernel) ⟨by decide, by decide⟩) hX hP (q0 := 0) rfl rfl rfl hl.1 rfl (Nat.le_of_ble_eq_true rfl) dX3_lower_6 ⟨Nat.zero_le _, Nat.zero_le _⟩ ?_
  refine lv_istore (lv' := [(5, .int (rI (sBh S (opn S (S 11 b0) h0) (Z 1) (2 * j0 + d0)))), (0, .ref (q 0)), (1, .int (nI b0)), (2, .int (nI j0)), (3, .int (nI d0)), (4, .int (nI h0))]) hx hb dX3_lower_9 hl (by decide) rfl (fun ls hl => ?_)
  refine lv_aload_n hx hb dX3_lower_11 rfl (lv_at hl 1 rfl) ?_
  refine lv_iload_n hx hb dX3_lower_12 rfl (lv_at hl 3 rfl) ?_
  refine lv_iload_n hx hb dX3_lower_13 rfl (lv_at hl 4 rfl) ?_
  refine rd_V (As := [.int (nI j0), .int (nI d0)]) (rest := []) ⟨hx, hb, hml, hown, hts⟩ (k_X3_to l D q k S Z j0 d0 hJ (by omega) hd) (cwV 2 hts gX3_lower_X3_to rfl rfl rfl (by decide +kernel) ⟨by decide, by decide⟩) hX hP (q0 := 0) rfl rfl rfl hl.1 rfl (Nat.le_of_ble_eq_true rfl) dX3_lower_14 ⟨Nat.zero_le _, Nat.zero_le _⟩ ?_
  refine lv_iconst (v := nI 1) hx hb dX3_lower_17 (by decide) ?_
  refine na_ixor1 hx hb (by omega) dX3_lower_18 ?_
  refine lv_istore (lv' := [(6, .int (nI (fl (S 8 (2 * j0 + d0))))), (5, .int (rI (sBh S (opn S (S 11 b0) h0) (Z 1) (2 * j0 + d0)))), (0, .ref (q 0)), (1, .int (nI b0)), (2, .int (nI j0)), (3, .int (nI d0)), (4, .int (nI h0))]) hx hb dX3_lower_19 hl (by decide) rfl (fun ls hl => ?_)
  refine lv_iload hx hb dX3_lower_21 (lv_at hl 1 rfl) ?_
  refine lv_iconst (v := pI 0) hx hb dX3_lower_23 (by decide) ?_
  refine nz_icmp_eq (tgt := 50) hx hb (by omega) dX3_lower_24 (by decide) (fun h_24 => ?_) (fun h_24 => ?_)
  · skip
    refine lv_iconst (v := nI 0) hx hb dX3_lower_50 (by decide) ?_
    exact W.zret (v := nI 0) hx hb hr (nar_b _ (by first | decide | omega | exact bN_le _)) (fun t ht hW => ⟨⟨_, (S, Z), rfl, ⟨bN0 (decide_eq_false (by omega)), rfl, by rw [rlx, if_neg (by omega), upR_id]⟩, by rw [ht]; exact hP, hD⟩, hS.F ht⟩) hS.2.2 dX3_lower_51
  · skip
    refine lv_aload_n hx hb dX3_lower_27 rfl (lv_at hl 2 rfl) ?_
    refine va_get (D := D) (v := .ref (q 14)) hx hb hts hin_X3 hown hX.1 hP 0 rfl rfl 20 (by decide) hf_50 (fun _ h9 => h9) rfl dX3_lower_28 ?_
    refine lv_iload hx hb dX3_lower_31 (lv_at hl 0 rfl) ?_
    refine na_iald hx hb hX.1 hP 14 0 rfl rfl (by omega) (by decide) dX3_lower_33 ?_
    refine lv_iconst (v := pI 0) hx hb dX3_lower_34 (by decide) ?_
    refine nz_icmp_eq (tgt := 52) hx hb (by omega) dX3_lower_35 (by decide) (fun h_35 => ?_) (fun h_35 => ?_)
    · skip
      refine lv_aload_n hx hb dX3_lower_52 rfl (lv_at hl 2 rfl) ?_
      refine va_get (D := D) (v := .ref (q 14)) hx hb hts hin_X3 hown hX.1 hP 0 rfl rfl 20 (by decide) hf_50 (fun _ h9 => h9) rfl dX3_lower_53 ?_
      refine lv_iload hx hb dX3_lower_56 (lv_at hl 0 rfl) ?_
      refine lv_iload hx hb dX3_lower_58 (lv_at hl 1 rfl) ?_
      refine na_iast hx hb hX.1 hP hD hS 14 0 rfl rfl (by omega) (by decide) (upd_enc rI _ _ _) dX3_lower_60 (fun H locs hP hD hS => ?_)
      have hP : va_P D vwCl (wM q k S (up2 Z 1 (fl (S 8 (2 * j0 + d0))) (sBh S (opn S (S 11 b0) h0) (Z 1) (2 * j0 + d0)))) H := sP_M14 hP
      have hD : va_D A (wM q k S (up2 Z 1 (fl (S 8 (2 * j0 + d0))) (sBh S (opn S (S 11 b0) h0) (Z 1) (2 * j0 + d0)))) := sD_M14 hD
      refine lv_iconst (v := nI 1) hx hb dX3_lower_61 (by decide) ?_
      exact W.zret (v := nI 1) hx hb hr (nar_b _ (by first | decide | omega | exact bN_le _)) (fun t ht hW => ⟨⟨_, (S, (up2 Z 1 (fl (S 8 (2 * j0 + d0))) (sBh S (opn S (S 11 b0) h0) (Z 1) (2 * j0 + d0)))), rfl, ⟨bN1 (decide_eq_true (by omega)), rfl, by rw [rlx, if_pos (by omega)]; rfl⟩, by rw [ht]; exact hP, hD⟩, hS.F ht⟩) hS.2.2 dX3_lower_62
    · skip
      refine lv_aload_n hx hb dX3_lower_38 rfl (lv_at hl 2 rfl) ?_
      refine va_get (D := D) (v := .ref (q 14)) hx hb hts hin_X3 hown hX.1 hP 0 rfl rfl 20 (by decide) hf_50 (fun _ h9 => h9) rfl dX3_lower_39 ?_
      refine lv_iload hx hb dX3_lower_42 (lv_at hl 0 rfl) ?_
      refine na_iald hx hb hX.1 hP 14 0 rfl rfl (by omega) (by decide) dX3_lower_44 ?_
      refine na_as (y := nI (Z 1 (fl (S 8 (2 * j0 + d0))))) (rI_some h_35) ?_
      refine lv_iload hx hb dX3_lower_45 (lv_at hl 1 rfl) ?_
      refine na_as (y := nI (sBh S (opn S (S 11 b0) h0) (Z 1) (2 * j0 + d0))) (rI_some h_24) ?_
      refine na_icmp_gt (tgt := 52) hx hb (by omega) (by omega) dX3_lower_47 (by decide) (fun h_47 => ?_) (fun h_47 => ?_)
      · skip
        refine lv_aload_n hx hb dX3_lower_52 rfl (lv_at hl 2 rfl) ?_
        refine va_get (D := D) (v := .ref (q 14)) hx hb hts hin_X3 hown hX.1 hP 0 rfl rfl 20 (by decide) hf_50 (fun _ h9 => h9) rfl dX3_lower_53 ?_
        refine lv_iload hx hb dX3_lower_56 (lv_at hl 0 rfl) ?_
        refine lv_iload hx hb dX3_lower_58 (lv_at hl 1 rfl) ?_
        refine na_iast hx hb hX.1 hP hD hS 14 0 rfl rfl (by omega) (by decide) (upd_enc rI _ _ _) dX3_lower_60 (fun H locs hP hD hS => ?_)
        have hP : va_P D vwCl (wM q k S (up2 Z 1 (fl (S 8 (2 * j0 + d0))) (sBh S (opn S (S 11 b0) h0) (Z 1) (2 * j0 + d0)))) H := sP_M14 hP
        have hD : va_D A (wM q k S (up2 Z 1 (fl (S 8 (2 * j0 + d0))) (sBh S (opn S (S 11 b0) h0) (Z 1) (2 * j0 + d0)))) := sD_M14 hD
        refine lv_iconst (v := nI 1) hx hb dX3_lower_61 (by decide) ?_
        exact W.zret (v := nI 1) hx hb hr (nar_b _ (by first | decide | omega | exact bN_le _)) (fun t ht hW => ⟨⟨_, (S, (up2 Z 1 (fl (S 8 (2 * j0 + d0))) (sBh S (opn S (S 11 b0) h0) (Z 1) (2 * j0 + d0)))), rfl, ⟨bN1 (decide_eq_true (by omega)), rfl, by rw [rlx, if_pos (by omega)]; rfl⟩, by rw [ht]; exact hP, hD⟩, hS.F ht⟩) hS.2.2 dX3_lower_62
      · skip
        refine lv_iconst (v := nI 0) hx hb dX3_lower_50 (by decide) ?_
        exact W.zret (v := nI 0) hx hb hr (nar_b _ (by first | decide | omega | exact bN_le _)) (fun t ht hW => ⟨⟨_, (S, Z), rfl, ⟨bN0 (decide_eq_false (by omega)), rfl, by rw [rlx, if_neg (by omega), upR_id]⟩, by rw [ht]; exact hP, hD⟩, hS.F ht⟩) hS.2.2 dX3_lower_51

set_option maxHeartbeats 4000000 in
set_option maxRecDepth 100000 in
theorem k_X3_reachAll (l : Launch) (D : va_G) (q : Nat → Nat) (k : Nat → ClassId) (S Z : Nat → Nat → Nat) (sz : Nat) (b0 : Nat) (a0 : Nat) (h0 : Nat) (hB : Bd S) (hJ : Jn S) (hR : Rb (Z 1)) (hG : Gr S (2 * S 0 0)) (hb0 : b0 < 6) (ha : a0 < S 0 0) (hh : h0 < 24) : Met l yX3_reachAll wsX3_reachAll ({ frames := 4, cells := 0, slots := 0, locals := 98 } : Room) (va_Pc [.ref (q 0), .int (nI b0), .int (nI a0), .int (nI h0)] (wB D k (wM q k S Z) sz)) (va_Qv (fun (u : (Nat → Nat → Nat) × (Nat → Nat → Nat)) => u.1 = S ∧ u.2 = upR Z 1 (itr S (opn S (S 11 b0) h0) (rs S a0 (Z 1)) 40)) (fun u t => wE D (va_A (wM q k S Z) sz) (wM q k u.1 u.2) t) (va_A (wM q k S Z) sz)) 0 0 (va_A (wM q k S Z) sz) := by
  refine Met.ofW (cc := cX3_reachAll) (maxL := 7) (ret := none) (by decide) rfl ?_
  intro p e s m args below meth c s₁ B hml hv
  obtain ⟨rfl, hsz, hP, hX, hD0⟩ := hv
  have hx := B.exec
  have hb := B.bytes
  have hr := B.returns
  have hts := atoms_spec (ws := wsX3_reachAll) B.pre
  have hown : s.vm.findClass RX3 = some m.cls := findClass_of_methodNamed B.named
  have hlocks := B.notSynchronized
  subst hsz
  have hD := hD0.self (sz := s.heap.size)
  generalize hAe : va_A (wM q k S Z) s.heap.size = A at hD ⊢
  have hA : ∀ q : Nat, s.heap.size ≤ q → A q := fun q h => by rw [← hAe]; exact Or.inr h
  have hS : va_S A s.heap s.heap [] := va_S.rf
  have hP : va_P D vwCl (wM q k S Z) s.heap := hP
  have hf_19 := hts (.fieldLink RX3 19 "FloorGraphModel" "both" "[Z") (by decide +kernel)
  have hf_50 := hts (.fieldLink RX3 50 "FloorGraphModel" "reached" "[I") (by decide +kernel)
  have hf_63 := hts (.fieldLink RX3 63 "FloorGraphModel" "pieces" "I") (by decide +kernel)
  have hf_73 := hts (.fieldLink RX3 73 "FloorGraphModel" "joins" "I") (by decide +kernel)
  have hin_X3 : ∀ w ∈ u_ws RX3 TX3 24, w ∈ wsX3_reachAll := by decide +kernel
  have f0 := hB.1
  have fj := hJ.1
  have f4 := hB.2.1 a0
  have hOk := rs_Okr (o := opn S (S 11 b0) h0) (S := S) (a := a0) hR
  have hl := lv_entry ([.ref (q 0), .int (nI b0), .int (nI a0), .int (nI h0)]) (n := 7) (Nat.le_of_ble_eq_true rfl)
  rw [lg_entry_eq]
  generalize (lg_sl ([.ref (q 0), .int (nI b0), .int (nI a0), .int (nI h0)]) ++ List.replicate (7 - (lg_sl ([.ref (q 0), .int (nI b0), .int (nI a0), .int (nI h0)])).length) Slot.unset).toArray = ls at hl ⊢
  have hl : lv_has ls 7 [(0, .ref (q 0)), (1, .int (nI b0)), (2, .int (nI a0)), (3, .int (nI h0))] := hl
  refine lv_iconst (v := nI 0) hx hb dX3_reachAll_0 (by decide) ?_
  refine lv_istore (lv' := [(4, .int (nI 0)), (0, .ref (q 0)), (1, .int (nI b0)), (2, .int (nI a0)), (3, .int (nI h0))]) hx hb dX3_reachAll_1 hl (by decide) rfl (fun ls hl => ?_)
  have L3 : ∀ (n3 : Nat) (i : Nat) (Y : Nat → Nat → Nat), (2 * S 0 0 < i + n3) → (h1 : i ≤ 2 * S 0 0) → (hY : Y = upR Z 1 (fun j => if j < i then 1000000 else Z 1 j)) → ∀ (H : Heap) (locs : List Loc), va_P D vwCl (wM q k S Y) H → va_D A (wM q k S Y) → va_S A s.heap H locs → ∀ (ls : Array Slot), lv_has ls 7 [(4, .int (nI i)), (0, .ref (q 0)), (1, .int (nI b0)), (2, .int (nI a0)), (3, .int (nI h0))] → W p l e (headSpec wsX3_reachAll ({ frames := 4, cells := 0, slots := 0, locals := 98 } : Room)).room s m [.ref (q 0), .int (nI b0), .int (nI a0), .int (nI h0)].toArray below meth c H locs 0 0 (MQ below (va_Qv (fun (u : (Nat → Nat → Nat) × (Nat → Nat → Nat)) => u.1 = S ∧ u.2 = upR Z 1 (itr S (opn S (S 11 b0) h0) (rs S a0 (Z 1)) 40)) (fun u t => wE D (A) (wM q k u.1 u.2) t) (A)) [.ref (q 0), .int (nI b0), .int (nI a0), .int (nI h0)].toArray s 0 0 A) (F0 m 3 ls []) := by
    intro n3
    induction n3 with
    | zero =>
      intro i Y hfuel3 h1 hY H locs hP hD hS ls hl
      exact absurd hfuel3 (by omega)
    | succ n3 ih3 =>
      intro i Y hfuel3 h1 hY H locs hP hD hS ls hl
      refine lv_iload hx hb dX3_reachAll_3 (lv_at hl 0 rfl) ?_
      refine lv_iconst (v := nI 2) hx hb dX3_reachAll_5 (by decide) ?_
      refine lv_aload_n hx hb dX3_reachAll_6 rfl (lv_at hl 1 rfl) ?_
      refine va_get (D := D) (v := .int (nI (S 0 0))) hx hb hts hin_X3 hown hX.1 hP 0 rfl rfl 1 (by decide) hf_63 (fun _ h9 => h9) rfl dX3_reachAll_7 ?_
      refine na_imul hx hb dX3_reachAll_10 ?_
      refine na_icmp_ge (tgt := 28) hx hb (by omega) (by omega) dX3_reachAll_11 (by decide) (fun h_11 => ?_) (fun h_11 => ?_)
      · skip
        refine lv_aload_n hx hb dX3_reachAll_28 rfl (lv_at hl 1 rfl) ?_
        refine va_get (D := D) (v := .ref (q 14)) hx hb hts hin_X3 hown hX.1 hP 0 rfl rfl 20 (by decide) hf_50 (fun _ h9 => h9) rfl dX3_reachAll_29 ?_
        refine lv_iconst (v := nI 2) hx hb dX3_reachAll_32 (by decide) ?_
        refine lv_iload_n hx hb dX3_reachAll_33 rfl (lv_at hl 3 rfl) ?_
        refine na_imul hx hb dX3_reachAll_34 ?_
        refine lv_iconst (v := nI 1) hx hb dX3_reachAll_35 (by decide) ?_
        refine na_iadd hx hb dX3_reachAll_36 ?_
        refine lv_iconst (v := nI 0) hx hb dX3_reachAll_37 (by decide) ?_
        refine na_as (y := rI 0) rfl ?_
        refine na_iast hx hb hX.1 hP hD hS 14 0 rfl rfl (by omega) (by decide) (upd_enc rI _ _ _) dX3_reachAll_38 (fun H locs hP hD hS => ?_)
        have hP : va_P D vwCl (wM q k S (up2 Y 1 ((2 * a0) + 1) 0)) H := sP_M14 hP
        have hD : va_D A (wM q k S (up2 Y 1 ((2 * a0) + 1) 0)) := sD_M14 hD
        refine lv_aload_n hx hb dX3_reachAll_39 rfl (lv_at hl 1 rfl) ?_
        refine va_get (D := D) (v := .ref (q 4)) hx hb hts hin_X3 hown hX.1 hP 0 rfl rfl 5 (by decide) hf_19 (fun _ h9 => h9) rfl dX3_reachAll_40 ?_
        refine lv_iload_n hx hb dX3_reachAll_43 rfl (lv_at hl 3 rfl) ?_
        refine na_zald hx hb hX.1 hP 4 1 rfl rfl (by omega) (by decide) dX3_reachAll_44 ?_
        refine na_if_eq (tgt := 57) hx hb (by omega) dX3_reachAll_45 (by decide) (fun h_45 => ?_) (fun h_45 => ?_)
        · skip
          refine lv_iconst (v := nI 1) hx hb dX3_reachAll_57 (by decide) ?_
          refine lv_istore (lv' := [(4, .int (nI 1)), (0, .ref (q 0)), (1, .int (nI b0)), (2, .int (nI a0)), (3, .int (nI h0))]) hx hb dX3_reachAll_58 hl (by decide) rfl (fun ls hl => ?_)
          have L60 : ∀ (n60 : Nat) (tt : Nat) (f : Nat) (X : Nat → Nat → Nat), (41 < tt + n60) → (h2 : tt ≤ 41) → (h3 : f = 1 ∧ tt ≤ 40 ∨ f = 0 ∧ chg S (opn S (S 11 b0) h0) (itr S (opn S (S 11 b0) h0) (rs S a0 (Z 1)) tt) (S 0 1) = false) → (hX1 : X = upR Z 1 (itr S (opn S (S 11 b0) h0) (rs S a0 (Z 1)) tt)) → ∀ (H : Heap) (locs : List Loc), va_P D vwCl (wM q k S X) H → va_D A (wM q k S X) → va_S A s.heap H locs → ∀ (ls : Array Slot), lv_has ls 7 [(4, .int (nI f)), (0, .ref (q 0)), (1, .int (nI b0)), (2, .int (nI a0)), (3, .int (nI h0))] → W p l e (headSpec wsX3_reachAll ({ frames := 4, cells := 0, slots := 0, locals := 98 } : Room)).room s m [.ref (q 0), .int (nI b0), .int (nI a0), .int (nI h0)].toArray below meth c H locs 0 0 (MQ below (va_Qv (fun (u : (Nat → Nat → Nat) × (Nat → Nat → Nat)) => u.1 = S ∧ u.2 = upR Z 1 (itr S (opn S (S 11 b0) h0) (rs S a0 (Z 1)) 40)) (fun u t => wE D (A) (wM q k u.1 u.2) t) (A)) [.ref (q 0), .int (nI b0), .int (nI a0), .int (nI h0)].toArray s 0 0 A) (F0 m 60 ls []) := by
            intro n60
            induction n60 with
            | zero =>
              intro tt f X hfuel60 h2 h3 hX1 H locs hP hD hS ls hl
              exact absurd hfuel60 (by omega)
            | succ n60 ih60 =>
              intro tt f X hfuel60 h2 h3 hX1 H locs hP hD hS ls hl
              refine lv_iload hx hb dX3_reachAll_60 (lv_at hl 0 rfl) ?_
              refine na_if_eq (tgt := 129) hx hb (by omega) dX3_reachAll_62 (by decide) (fun h_62 => ?_) (fun h_62 => ?_)
              · skip
                exact W.vret hx hb hr (fun t ht hW => ⟨⟨(S, X), rfl, ⟨rfl, by rw [hX1]; exact congrArg (upR Z 1) (rs_fin hG hR ha tt (fun _ => (h3.resolve_left (by omega)).2))⟩, by rw [ht]; exact hP, hD⟩, hS.F ht⟩) hS.2.2 dX3_reachAll_129
              · skip
                refine lv_iconst (v := nI 0) hx hb dX3_reachAll_65 (by decide) ?_
                refine lv_istore (lv' := [(4, .int (nI 0)), (0, .ref (q 0)), (1, .int (nI b0)), (2, .int (nI a0)), (3, .int (nI h0))]) hx hb dX3_reachAll_66 hl (by decide) rfl (fun ls hl => ?_)
                refine lv_iconst (v := nI 0) hx hb dX3_reachAll_68 (by decide) ?_
                refine lv_istore (lv' := [(5, .int (nI 0)), (4, .int (nI 0)), (0, .ref (q 0)), (1, .int (nI b0)), (2, .int (nI a0)), (3, .int (nI h0))]) hx hb dX3_reachAll_69 hl (by decide) rfl (fun ls hl => ?_)
                have L71 : ∀ (n71 : Nat) (j : Nat) (f2 : Nat) (X2 : Nat → Nat → Nat), (S 0 1 / 2 < j + n71) → (h4 : 2 * j ≤ S 0 1) → (hf2 : f2 = bN (chg S (opn S (S 11 b0) h0) (itr S (opn S (S 11 b0) h0) (rs S a0 (Z 1)) tt) (2 * j))) → (hX2 : X2 = upR Z 1 (rnd S (opn S (S 11 b0) h0) (itr S (opn S (S 11 b0) h0) (rs S a0 (Z 1)) tt) (2 * j))) → ∀ (H : Heap) (locs : List Loc), va_P D vwCl (wM q k S X2) H → va_D A (wM q k S X2) → va_S A s.heap H locs → ∀ (ls : Array Slot), lv_has ls 7 [(5, .int (nI j)), (4, .int (nI f2)), (0, .ref (q 0)), (1, .int (nI b0)), (2, .int (nI a0)), (3, .int (nI h0))] → W p l e (headSpec wsX3_reachAll ({ frames := 4, cells := 0, slots := 0, locals := 98 } : Room)).room s m [.ref (q 0), .int (nI b0), .int (nI a0), .int (nI h0)].toArray below meth c H locs 0 0 (MQ below (va_Qv (fun (u : (Nat → Nat → Nat) × (Nat → Nat → Nat)) => u.1 = S ∧ u.2 = upR Z 1 (itr S (opn S (S 11 b0) h0) (rs S a0 (Z 1)) 40)) (fun u t => wE D (A) (wM q k u.1 u.2) t) (A)) [.ref (q 0), .int (nI b0), .int (nI a0), .int (nI h0)].toArray s 0 0 A) (F0 m 71 ls []) := by
                  intro n71
                  induction n71 with
                  | zero =>
                    intro j f2 X2 hfuel71 h4 hf2 hX2 H locs hP hD hS ls hl
                    exact absurd hfuel71 (by omega)
                  | succ n71 ih71 =>
                    intro j f2 X2 hfuel71 h4 hf2 hX2 H locs hP hD hS ls hl
                    refine lv_iload hx hb dX3_reachAll_71 (lv_at hl 0 rfl) ?_
                    refine lv_aload_n hx hb dX3_reachAll_73 rfl (lv_at hl 2 rfl) ?_
                    refine va_get (D := D) (v := .int (nI ((S 0 1) / 2))) hx hb hts hin_X3 hown hX.1 hP 0 rfl rfl 8 (by decide) hf_73 (fun _ h9 => h9) rfl dX3_reachAll_74 ?_
                    refine na_icmp_ge (tgt := 126) hx hb (by omega) (by omega) dX3_reachAll_77 (by decide) (fun h_77 => ?_) (fun h_77 => ?_)
                    · skip
                      refine lv_goto (tgt := 60) hx hb dX3_reachAll_126 (by decide) ?_
                      exact ih60 (tt + 1) f2 X2 (by omega) (by omega) (by show f2 = 1 ∧ tt + 1 ≤ 40 ∨ f2 = 0 ∧ chg _ _ (rnd _ _ (itr S (opn S (S 11 b0) h0) (rs S a0 (Z 1)) tt) (S 0 1)) (S 0 1) = false; rw [show 2 * j = S 0 1 by omega] at hf2; exact chg_d (fun q => rs_40 hG hR ha tt q) hf2) (by rw [hX2, show 2 * j = S 0 1 by omega]; rfl) _ _ hP hD hS ls (lv_sub hl [1, 2, 3, 4, 5] rfl)
                    · skip
                      refine lv_iconst (v := nI 0) hx hb dX3_reachAll_80 (by decide) ?_
                      refine lv_istore (lv' := [(6, .int (nI 0)), (5, .int (nI j)), (4, .int (nI f2)), (0, .ref (q 0)), (1, .int (nI b0)), (2, .int (nI a0)), (3, .int (nI h0))]) hx hb dX3_reachAll_81 hl (by decide) rfl (fun ls hl => ?_)
                      have L83 : ∀ (n83 : Nat) (d : Nat) (f3 : Nat) (X3 : Nat → Nat → Nat), (2 < d + n83) → (h5 : d ≤ 2) → (hf3 : f3 = bN (chg S (opn S (S 11 b0) h0) (itr S (opn S (S 11 b0) h0) (rs S a0 (Z 1)) tt) (2 * j + d))) → (hX3 : X3 = upR Z 1 (rnd S (opn S (S 11 b0) h0) (itr S (opn S (S 11 b0) h0) (rs S a0 (Z 1)) tt) (2 * j + d))) → ∀ (H : Heap) (locs : List Loc), va_P D vwCl (wM q k S X3) H → va_D A (wM q k S X3) → va_S A s.heap H locs → ∀ (ls : Array Slot), lv_has ls 7 [(6, .int (nI d)), (5, .int (nI j)), (4, .int (nI f3)), (0, .ref (q 0)), (1, .int (nI b0)), (2, .int (nI a0)), (3, .int (nI h0))] → W p l e (headSpec wsX3_reachAll ({ frames := 4, cells := 0, slots := 0, locals := 98 } : Room)).room s m [.ref (q 0), .int (nI b0), .int (nI a0), .int (nI h0)].toArray below meth c H locs 0 0 (MQ below (va_Qv (fun (u : (Nat → Nat → Nat) × (Nat → Nat → Nat)) => u.1 = S ∧ u.2 = upR Z 1 (itr S (opn S (S 11 b0) h0) (rs S a0 (Z 1)) 40)) (fun u t => wE D (A) (wM q k u.1 u.2) t) (A)) [.ref (q 0), .int (nI b0), .int (nI a0), .int (nI h0)].toArray s 0 0 A) (F0 m 83 ls []) := by
                        intro n83
                        induction n83 with
                        | zero =>
                          intro d f3 X3 hfuel83 h5 hf3 hX3 H locs hP hD hS ls hl
                          exact absurd hfuel83 (by omega)
                        | succ n83 ih83 =>
                          intro d f3 X3 hfuel83 h5 hf3 hX3 H locs hP hD hS ls hl
                          refine lv_iload hx hb dX3_reachAll_83 (lv_at hl 0 rfl) ?_
                          refine lv_iconst (v := nI 2) hx hb dX3_reachAll_85 (by decide) ?_
                          refine na_icmp_ge (tgt := 120) hx hb (by omega) (by omega) dX3_reachAll_86 (by decide) (fun h_86 => ?_) (fun h_86 => ?_)
                          · skip
                            refine lv_iinc (v := nI (j + 1)) (lv' := [(5, .int (nI (j + 1))), (6, .int (nI d)), (4, .int (nI f3)), (0, .ref (q 0)), (1, .int (nI b0)), (2, .int (nI a0)), (3, .int (nI h0))]) hx hb dX3_reachAll_120 hl (k := 1) rfl (nI_add _ 1) (by decide) rfl (fun ls hl => ?_)
                            refine lv_goto (tgt := 71) hx hb dX3_reachAll_123 (by decide) ?_
                            exact ih71 (j + 1) f3 X3 (by omega) (by omega) (by rw [show 2 * (j + 1) = 2 * j + d by omega]; exact hf3) (by rw [show 2 * (j + 1) = 2 * j + d by omega]; exact hX3) _ _ hP hD hS ls (lv_sub hl [0, 2, 3, 4, 5, 6] rfl)
                          · skip
                            refine lv_aload_n hx hb dX3_reachAll_89 rfl (lv_at hl 3 rfl) ?_
                            refine lv_iload_n hx hb dX3_reachAll_90 rfl (lv_at hl 4 rfl) ?_
                            refine lv_iload hx hb dX3_reachAll_91 (lv_at hl 1 rfl) ?_
                            refine lv_iload hx hb dX3_reachAll_93 (lv_at hl 0 rfl) ?_
                            refine lv_iload_n hx hb dX3_reachAll_95 rfl (lv_at hl 6 rfl) ?_
                            refine wr_Vi (As := [.int (nI b0), .int (nI j), .int (nI d), .int (nI h0)]) (rest := []) ⟨hx, hb, hml, hown, hts⟩ (k_X3_lower l D q k S X3 _ b0 j d h0 hB hJ (by rw [hX3, upR_same]; exact (Okr.rnd hG (Okr.itr hG hOk tt) (2 * j + d) (by omega)).2) hb0 (by omega) (by omega) hh) (cwV 4 hts gX3_reachAll_X3_lower rfl rfl rfl (by decide +kernel) ⟨by decide, by decide⟩) hX hP hD hS hA (q0 := 0) rfl rfl rfl hl.1 rfl (Nat.le_of_ble_eq_true rfl) dX3_reachAll_96 ⟨Nat.le_of_ble_eq_true rfl, Nat.le_of_ble_eq_true rfl⟩ (fun r_1 u_1 H locs hw_1 hP hD hS => ?_)
                            obtain ⟨S_1, Z_1⟩ := u_1
                            obtain ⟨e1, e2, e3⟩ := hw_1
                            dsimp only at e2 e3 hP hD
                            rw [e2, e3] at hP hD
                            subst e1
                            have hP : va_P D vwCl (wM q k S (upR X3 1 (rlx S (opn S (S 11 b0) h0) (X3 1) (2 * j + d)))) H := hP
                            have hD : va_D A (wM q k S (upR X3 1 (rlx S (opn S (S 11 b0) h0) (X3 1) (2 * j + d)))) := hD
                            refine na_if_ne (tgt := 107) hx hb (bN_lt _) dX3_reachAll_99 (by decide) (fun h_99 => ?_) (fun h_99 => ?_)
                            · skip
                              refine lv_iconst (v := nI 1) hx hb dX3_reachAll_107 (by decide) ?_
                              refine lv_goto (tgt := 112) hx hb dX3_reachAll_108 (by decide) ?_
                              refine lv_istore (lv' := [(4, .int (nI 1)), (6, .int (nI d)), (5, .int (nI j)), (0, .ref (q 0)), (1, .int (nI b0)), (2, .int (nI a0)), (3, .int (nI h0))]) hx hb dX3_reachAll_112 hl (by decide) rfl (fun ls hl => ?_)
                              refine lv_iinc (v := nI (d + 1)) (lv' := [(6, .int (nI (d + 1))), (4, .int (nI 1)), (5, .int (nI j)), (0, .ref (q 0)), (1, .int (nI b0)), (2, .int (nI a0)), (3, .int (nI h0))]) hx hb dX3_reachAll_114 hl (k := 1) rfl (nI_add _ 1) (by decide) rfl (fun ls hl => ?_)
                              refine lv_goto (tgt := 83) hx hb dX3_reachAll_117 (by decide) ?_
                              exact ih83 (d + 1) 1 ((upR X3 1 (rlx S (opn S (S 11 b0) h0) (X3 1) (2 * j + d)))) (by omega) (by omega) (by rw [hX3, upR_same] at h_99; rw [show 2 * j + (d + 1) = 2 * j + d + 1 from rfl]; first | exact chg_y h_99 | exact chg_o hf3 h_104 | exact chg_z hf3 h_104 h_99) (by rw [hX3, upR_upR, upR_same]; rfl) _ _ hP hD hS ls (lv_sub hl [0, 2, 1, 3, 4, 5, 6] rfl)
                            · skip
                              refine lv_iload hx hb dX3_reachAll_102 (lv_at hl 2 rfl) ?_
                              refine na_if_eq (tgt := 111) hx hb (by rw [hf3]; exact bN_lt _) dX3_reachAll_104 (by decide) (fun h_104 => ?_) (fun h_104 => ?_)
                              · skip
                                refine lv_iconst (v := nI 0) hx hb dX3_reachAll_111 (by decide) ?_
                                refine lv_istore (lv' := [(4, .int (nI 0)), (6, .int (nI d)), (5, .int (nI j)), (0, .ref (q 0)), (1, .int (nI b0)), (2, .int (nI a0)), (3, .int (nI h0))]) hx hb dX3_reachAll_112 hl (by decide) rfl (fun ls hl => ?_)
                                refine lv_iinc (v := nI (d + 1)) (lv' := [(6, .int (nI (d + 1))), (4, .int (nI 0)), (5, .int (nI j)), (0, .ref (q 0)), (1, .int (nI b0)), (2, .int (nI a0)), (3, .int (nI h0))]) hx hb dX3_reachAll_114 hl (k := 1) rfl (nI_add _ 1) (by decide) rfl (fun ls hl => ?_)
                                refine lv_goto (tgt := 83) hx hb dX3_reachAll_117 (by decide) ?_
                                exact ih83 (d + 1) 0 ((upR X3 1 (rlx S (opn S (S 11 b0) h0) (X3 1) (2 * j + d)))) (by omega) (by omega) (by rw [hX3, upR_same] at h_99; rw [show 2 * j + (d + 1) = 2 * j + d + 1 from rfl]; first | exact chg_y h_99 | exact chg_o hf3 h_104 | exact chg_z hf3 h_104 h_99) (by rw [hX3, upR_upR, upR_same]; rfl) _ _ hP hD hS ls (lv_sub hl [0, 2, 1, 3, 4, 5, 6] rfl)
                              · skip
                                refine lv_iconst (v := nI 1) hx hb dX3_reachAll_107 (by decide) ?_
                                refine lv_goto (tgt := 112) hx hb dX3_reachAll_108 (by decide) ?_
                                refine lv_istore (lv' := [(4, .int (nI 1)), (6, .int (nI d)), (5, .int (nI j)), (0, .ref (q 0)), (1, .int (nI b0)), (2, .int (nI a0)), (3, .int (nI h0))]) hx hb dX3_reachAll_112 hl (by decide) rfl (fun ls hl => ?_)
                                refine lv_iinc (v := nI (d + 1)) (lv' := [(6, .int (nI (d + 1))), (4, .int (nI 1)), (5, .int (nI j)), (0, .ref (q 0)), (1, .int (nI b0)), (2, .int (nI a0)), (3, .int (nI h0))]) hx hb dX3_reachAll_114 hl (k := 1) rfl (nI_add _ 1) (by decide) rfl (fun ls hl => ?_)
                                refine lv_goto (tgt := 83) hx hb dX3_reachAll_117 (by decide) ?_
                                exact ih83 (d + 1) 1 ((upR X3 1 (rlx S (opn S (S 11 b0) h0) (X3 1) (2 * j + d)))) (by omega) (by omega) (by rw [hX3, upR_same] at h_99; rw [show 2 * j + (d + 1) = 2 * j + d + 1 from rfl]; first | exact chg_y h_99 | exact chg_o hf3 h_104 | exact chg_z hf3 h_104 h_99) (by rw [hX3, upR_upR, upR_same]; rfl) _ _ hP hD hS ls (lv_sub hl [0, 2, 1, 3, 4, 5, 6] rfl)
                      exact L83 3 0 f2 X2 (by omega) (by omega) hf2 hX2 _ _ hP hD hS ls hl
                exact L71 (S 0 1 + 1) 0 0 X (by omega) (by omega) rfl hX1 _ _ hP hD hS ls hl
          have hY2 := rs_A (S := S) (Z := Z) ha (by omega)
          rw [show i = 2 * S 0 0 by omega] at hY
          exact L60 42 0 1 ((up2 Y 1 ((2 * a0) + 1) 0)) (by omega) (by omega) (Or.inl ⟨rfl, by omega⟩) (by rw [hY]; first | (rw [up2, up2, upR_upR, upR_upR, upR_same, upR_same]; exact congrArg (upR Z 1) (hY2.2 h_45)) | (rw [up2, upR_upR, upR_same]; exact congrArg (upR Z 1) (hY2.1 h_45))) _ _ hP hD hS ls hl
        · skip
          refine lv_aload_n hx hb dX3_reachAll_48 rfl (lv_at hl 1 rfl) ?_
          refine va_get (D := D) (v := .ref (q 14)) hx hb hts hin_X3 hown hX.1 hP 0 rfl rfl 20 (by decide) hf_50 (fun _ h9 => h9) rfl dX3_reachAll_49 ?_
          refine lv_iconst (v := nI 2) hx hb dX3_reachAll_52 (by decide) ?_
          refine lv_iload_n hx hb dX3_reachAll_53 rfl (lv_at hl 3 rfl) ?_
          refine na_imul hx hb dX3_reachAll_54 ?_
          refine lv_iconst (v := nI 0) hx hb dX3_reachAll_55 (by decide) ?_
          refine na_as (y := rI 0) rfl ?_
          refine na_iast hx hb hX.1 hP hD hS 14 0 rfl rfl (by omega) (by decide) (upd_enc rI _ _ _) dX3_reachAll_56 (fun H locs hP hD hS => ?_)
          have hP : va_P D vwCl (wM q k S (up2 (up2 Y 1 ((2 * a0) + 1) 0) 1 (2 * a0) 0)) H := sP_M14 hP
          have hD : va_D A (wM q k S (up2 (up2 Y 1 ((2 * a0) + 1) 0) 1 (2 * a0) 0)) := sD_M14 hD
          refine lv_iconst (v := nI 1) hx hb dX3_reachAll_57 (by decide) ?_
          refine lv_istore (lv' := [(4, .int (nI 1)), (0, .ref (q 0)), (1, .int (nI b0)), (2, .int (nI a0)), (3, .int (nI h0))]) hx hb dX3_reachAll_58 hl (by decide) rfl (fun ls hl => ?_)
          have L60 : ∀ (n60 : Nat) (tt : Nat) (f : Nat) (X : Nat → Nat → Nat), (41 < tt + n60) → (h2 : tt ≤ 41) → (h3 : f = 1 ∧ tt ≤ 40 ∨ f = 0 ∧ chg S (opn S (S 11 b0) h0) (itr S (opn S (S 11 b0) h0) (rs S a0 (Z 1)) tt) (S 0 1) = false) → (hX1 : X = upR Z 1 (itr S (opn S (S 11 b0) h0) (rs S a0 (Z 1)) tt)) → ∀ (H : Heap) (locs : List Loc), va_P D vwCl (wM q k S X) H → va_D A (wM q k S X) → va_S A s.heap H locs → ∀ (ls : Array Slot), lv_has ls 7 [(4, .int (nI f)), (0, .ref (q 0)), (1, .int (nI b0)), (2, .int (nI a0)), (3, .int (nI h0))] → W p l e (headSpec wsX3_reachAll ({ frames := 4, cells := 0, slots := 0, locals := 98 } : Room)).room s m [.ref (q 0), .int (nI b0), .int (nI a0), .int (nI h0)].toArray below meth c H locs 0 0 (MQ below (va_Qv (fun (u : (Nat → Nat → Nat) × (Nat → Nat → Nat)) => u.1 = S ∧ u.2 = upR Z 1 (itr S (opn S (S 11 b0) h0) (rs S a0 (Z 1)) 40)) (fun u t => wE D (A) (wM q k u.1 u.2) t) (A)) [.ref (q 0), .int (nI b0), .int (nI a0), .int (nI h0)].toArray s 0 0 A) (F0 m 60 ls []) := by
            intro n60
            induction n60 with
            | zero =>
              intro tt f X hfuel60 h2 h3 hX1 H locs hP hD hS ls hl
              exact absurd hfuel60 (by omega)
            | succ n60 ih60 =>
              intro tt f X hfuel60 h2 h3 hX1 H locs hP hD hS ls hl
              refine lv_iload hx hb dX3_reachAll_60 (lv_at hl 0 rfl) ?_
              refine na_if_eq (tgt := 129) hx hb (by omega) dX3_reachAll_62 (by decide) (fun h_62 => ?_) (fun h_62 => ?_)
              · skip
                exact W.vret hx hb hr (fun t ht hW => ⟨⟨(S, X), rfl, ⟨rfl, by rw [hX1]; exact congrArg (upR Z 1) (rs_fin hG hR ha tt (fun _ => (h3.resolve_left (by omega)).2))⟩, by rw [ht]; exact hP, hD⟩, hS.F ht⟩) hS.2.2 dX3_reachAll_129
              · skip
                refine lv_iconst (v := nI 0) hx hb dX3_reachAll_65 (by decide) ?_
                refine lv_istore (lv' := [(4, .int (nI 0)), (0, .ref (q 0)), (1, .int (nI b0)), (2, .int (nI a0)), (3, .int (nI h0))]) hx hb dX3_reachAll_66 hl (by decide) rfl (fun ls hl => ?_)
                refine lv_iconst (v := nI 0) hx hb dX3_reachAll_68 (by decide) ?_
                refine lv_istore (lv' := [(5, .int (nI 0)), (4, .int (nI 0)), (0, .ref (q 0)), (1, .int (nI b0)), (2, .int (nI a0)), (3, .int (nI h0))]) hx hb dX3_reachAll_69 hl (by decide) rfl (fun ls hl => ?_)
                have L71 : ∀ (n71 : Nat) (j : Nat) (f2 : Nat) (X2 : Nat → Nat → Nat), (S 0 1 / 2 < j + n71) → (h4 : 2 * j ≤ S 0 1) → (hf2 : f2 = bN (chg S (opn S (S 11 b0) h0) (itr S (opn S (S 11 b0) h0) (rs S a0 (Z 1)) tt) (2 * j))) → (hX2 : X2 = upR Z 1 (rnd S (opn S (S 11 b0) h0) (itr S (opn S (S 11 b0) h0) (rs S a0 (Z 1)) tt) (2 * j))) → ∀ (H : Heap) (locs : List Loc), va_P D vwCl (wM q k S X2) H → va_D A (wM q k S X2) → va_S A s.heap H locs → ∀ (ls : Array Slot), lv_has ls 7 [(5, .int (nI j)), (4, .int (nI f2)), (0, .ref (q 0)), (1, .int (nI b0)), (2, .int (nI a0)), (3, .int (nI h0))] → W p l e (headSpec wsX3_reachAll ({ frames := 4, cells := 0, slots := 0, locals := 98 } : Room)).room s m [.ref (q 0), .int (nI b0), .int (nI a0), .int (nI h0)].toArray below meth c H locs 0 0 (MQ below (va_Qv (fun (u : (Nat → Nat → Nat) × (Nat → Nat → Nat)) => u.1 = S ∧ u.2 = upR Z 1 (itr S (opn S (S 11 b0) h0) (rs S a0 (Z 1)) 40)) (fun u t => wE D (A) (wM q k u.1 u.2) t) (A)) [.ref (q 0), .int (nI b0), .int (nI a0), .int (nI h0)].toArray s 0 0 A) (F0 m 71 ls []) := by
                  intro n71
                  induction n71 with
                  | zero =>
                    intro j f2 X2 hfuel71 h4 hf2 hX2 H locs hP hD hS ls hl
                    exact absurd hfuel71 (by omega)
                  | succ n71 ih71 =>
                    intro j f2 X2 hfuel71 h4 hf2 hX2 H locs hP hD hS ls hl
                    refine lv_iload hx hb dX3_reachAll_71 (lv_at hl 0 rfl) ?_
                    refine lv_aload_n hx hb dX3_reachAll_73 rfl (lv_at hl 2 rfl) ?_
                    refine va_get (D := D) (v := .int (nI ((S 0 1) / 2))) hx hb hts hin_X3 hown hX.1 hP 0 rfl rfl 8 (by decide) hf_73 (fun _ h9 => h9) rfl dX3_reachAll_74 ?_
                    refine na_icmp_ge (tgt := 126) hx hb (by omega) (by omega) dX3_reachAll_77 (by decide) (fun h_77 => ?_) (fun h_77 => ?_)
                    · skip
                      refine lv_goto (tgt := 60) hx hb dX3_reachAll_126 (by decide) ?_
                      exact ih60 (tt + 1) f2 X2 (by omega) (by omega) (by show f2 = 1 ∧ tt + 1 ≤ 40 ∨ f2 = 0 ∧ chg _ _ (rnd _ _ (itr S (opn S (S 11 b0) h0) (rs S a0 (Z 1)) tt) (S 0 1)) (S 0 1) = false; rw [show 2 * j = S 0 1 by omega] at hf2; exact chg_d (fun q => rs_40 hG hR ha tt q) hf2) (by rw [hX2, show 2 * j = S 0 1 by omega]; rfl) _ _ hP hD hS ls (lv_sub hl [1, 2, 3, 4, 5] rfl)
                    · skip
                      refine lv_iconst (v := nI 0) hx hb dX3_reachAll_80 (by decide) ?_
                      refine lv_istore (lv' := [(6, .int (nI 0)), (5, .int (nI j)), (4, .int (nI f2)), (0, .ref (q 0)), (1, .int (nI b0)), (2, .int (nI a0)), (3, .int (nI h0))]) hx hb dX3_reachAll_81 hl (by decide) rfl (fun ls hl => ?_)
                      have L83 : ∀ (n83 : Nat) (d : Nat) (f3 : Nat) (X3 : Nat → Nat → Nat), (2 < d + n83) → (h5 : d ≤ 2) → (hf3 : f3 = bN (chg S (opn S (S 11 b0) h0) (itr S (opn S (S 11 b0) h0) (rs S a0 (Z 1)) tt) (2 * j + d))) → (hX3 : X3 = upR Z 1 (rnd S (opn S (S 11 b0) h0) (itr S (opn S (S 11 b0) h0) (rs S a0 (Z 1)) tt) (2 * j + d))) → ∀ (H : Heap) (locs : List Loc), va_P D vwCl (wM q k S X3) H → va_D A (wM q k S X3) → va_S A s.heap H locs → ∀ (ls : Array Slot), lv_has ls 7 [(6, .int (nI d)), (5, .int (nI j)), (4, .int (nI f3)), (0, .ref (q 0)), (1, .int (nI b0)), (2, .int (nI a0)), (3, .int (nI h0))] → W p l e (headSpec wsX3_reachAll ({ frames := 4, cells := 0, slots := 0, locals := 98 } : Room)).room s m [.ref (q 0), .int (nI b0), .int (nI a0), .int (nI h0)].toArray below meth c H locs 0 0 (MQ below (va_Qv (fun (u : (Nat → Nat → Nat) × (Nat → Nat → Nat)) => u.1 = S ∧ u.2 = upR Z 1 (itr S (opn S (S 11 b0) h0) (rs S a0 (Z 1)) 40)) (fun u t => wE D (A) (wM q k u.1 u.2) t) (A)) [.ref (q 0), .int (nI b0), .int (nI a0), .int (nI h0)].toArray s 0 0 A) (F0 m 83 ls []) := by
                        intro n83
                        induction n83 with
                        | zero =>
                          intro d f3 X3 hfuel83 h5 hf3 hX3 H locs hP hD hS ls hl
                          exact absurd hfuel83 (by omega)
                        | succ n83 ih83 =>
                          intro d f3 X3 hfuel83 h5 hf3 hX3 H locs hP hD hS ls hl
                          refine lv_iload hx hb dX3_reachAll_83 (lv_at hl 0 rfl) ?_
                          refine lv_iconst (v := nI 2) hx hb dX3_reachAll_85 (by decide) ?_
                          refine na_icmp_ge (tgt := 120) hx hb (by omega) (by omega) dX3_reachAll_86 (by decide) (fun h_86 => ?_) (fun h_86 => ?_)
                          · skip
                            refine lv_iinc (v := nI (j + 1)) (lv' := [(5, .int (nI (j + 1))), (6, .int (nI d)), (4, .int (nI f3)), (0, .ref (q 0)), (1, .int (nI b0)), (2, .int (nI a0)), (3, .int (nI h0))]) hx hb dX3_reachAll_120 hl (k := 1) rfl (nI_add _ 1) (by decide) rfl (fun ls hl => ?_)
                            refine lv_goto (tgt := 71) hx hb dX3_reachAll_123 (by decide) ?_
                            exact ih71 (j + 1) f3 X3 (by omega) (by omega) (by rw [show 2 * (j + 1) = 2 * j + d by omega]; exact hf3) (by rw [show 2 * (j + 1) = 2 * j + d by omega]; exact hX3) _ _ hP hD hS ls (lv_sub hl [0, 2, 3, 4, 5, 6] rfl)
                          · skip
                            refine lv_aload_n hx hb dX3_reachAll_89 rfl (lv_at hl 3 rfl) ?_
                            refine lv_iload_n hx hb dX3_reachAll_90 rfl (lv_at hl 4 rfl) ?_
                            refine lv_iload hx hb dX3_reachAll_91 (lv_at hl 1 rfl) ?_
                            refine lv_iload hx hb dX3_reachAll_93 (lv_at hl 0 rfl) ?_
                            refine lv_iload_n hx hb dX3_reachAll_95 rfl (lv_at hl 6 rfl) ?_
                            refine wr_Vi (As := [.int (nI b0), .int (nI j), .int (nI d), .int (nI h0)]) (rest := []) ⟨hx, hb, hml, hown, hts⟩ (k_X3_lower l D q k S X3 _ b0 j d h0 hB hJ (by rw [hX3, upR_same]; exact (Okr.rnd hG (Okr.itr hG hOk tt) (2 * j + d) (by omega)).2) hb0 (by omega) (by omega) hh) (cwV 4 hts gX3_reachAll_X3_lower rfl rfl rfl (by decide +kernel) ⟨by decide, by decide⟩) hX hP hD hS hA (q0 := 0) rfl rfl rfl hl.1 rfl (Nat.le_of_ble_eq_true rfl) dX3_reachAll_96 ⟨Nat.le_of_ble_eq_true rfl, Nat.le_of_ble_eq_true rfl⟩ (fun r_2 u_2 H locs hw_2 hP hD hS => ?_)
                            obtain ⟨S_2, Z_2⟩ := u_2
                            obtain ⟨e1, e2, e3⟩ := hw_2
                            dsimp only at e2 e3 hP hD
                            rw [e2, e3] at hP hD
                            subst e1
                            have hP : va_P D vwCl (wM q k S (upR X3 1 (rlx S (opn S (S 11 b0) h0) (X3 1) (2 * j + d)))) H := hP
                            have hD : va_D A (wM q k S (upR X3 1 (rlx S (opn S (S 11 b0) h0) (X3 1) (2 * j + d)))) := hD
                            refine na_if_ne (tgt := 107) hx hb (bN_lt _) dX3_reachAll_99 (by decide) (fun h_99 => ?_) (fun h_99 => ?_)
                            · skip
                              refine lv_iconst (v := nI 1) hx hb dX3_reachAll_107 (by decide) ?_
                              refine lv_goto (tgt := 112) hx hb dX3_reachAll_108 (by decide) ?_
                              refine lv_istore (lv' := [(4, .int (nI 1)), (6, .int (nI d)), (5, .int (nI j)), (0, .ref (q 0)), (1, .int (nI b0)), (2, .int (nI a0)), (3, .int (nI h0))]) hx hb dX3_reachAll_112 hl (by decide) rfl (fun ls hl => ?_)
                              refine lv_iinc (v := nI (d + 1)) (lv' := [(6, .int (nI (d + 1))), (4, .int (nI 1)), (5, .int (nI j)), (0, .ref (q 0)), (1, .int (nI b0)), (2, .int (nI a0)), (3, .int (nI h0))]) hx hb dX3_reachAll_114 hl (k := 1) rfl (nI_add _ 1) (by decide) rfl (fun ls hl => ?_)
                              refine lv_goto (tgt := 83) hx hb dX3_reachAll_117 (by decide) ?_
                              exact ih83 (d + 1) 1 ((upR X3 1 (rlx S (opn S (S 11 b0) h0) (X3 1) (2 * j + d)))) (by omega) (by omega) (by rw [hX3, upR_same] at h_99; rw [show 2 * j + (d + 1) = 2 * j + d + 1 from rfl]; first | exact chg_y h_99 | exact chg_o hf3 h_104 | exact chg_z hf3 h_104 h_99) (by rw [hX3, upR_upR, upR_same]; rfl) _ _ hP hD hS ls (lv_sub hl [0, 2, 1, 3, 4, 5, 6] rfl)
                            · skip
                              refine lv_iload hx hb dX3_reachAll_102 (lv_at hl 2 rfl) ?_
                              refine na_if_eq (tgt := 111) hx hb (by rw [hf3]; exact bN_lt _) dX3_reachAll_104 (by decide) (fun h_104 => ?_) (fun h_104 => ?_)
                              · skip
                                refine lv_iconst (v := nI 0) hx hb dX3_reachAll_111 (by decide) ?_
                                refine lv_istore (lv' := [(4, .int (nI 0)), (6, .int (nI d)), (5, .int (nI j)), (0, .ref (q 0)), (1, .int (nI b0)), (2, .int (nI a0)), (3, .int (nI h0))]) hx hb dX3_reachAll_112 hl (by decide) rfl (fun ls hl => ?_)
                                refine lv_iinc (v := nI (d + 1)) (lv' := [(6, .int (nI (d + 1))), (4, .int (nI 0)), (5, .int (nI j)), (0, .ref (q 0)), (1, .int (nI b0)), (2, .int (nI a0)), (3, .int (nI h0))]) hx hb dX3_reachAll_114 hl (k := 1) rfl (nI_add _ 1) (by decide) rfl (fun ls hl => ?_)
                                refine lv_goto (tgt := 83) hx hb dX3_reachAll_117 (by decide) ?_
                                exact ih83 (d + 1) 0 ((upR X3 1 (rlx S (opn S (S 11 b0) h0) (X3 1) (2 * j + d)))) (by omega) (by omega) (by rw [hX3, upR_same] at h_99; rw [show 2 * j + (d + 1) = 2 * j + d + 1 from rfl]; first | exact chg_y h_99 | exact chg_o hf3 h_104 | exact chg_z hf3 h_104 h_99) (by rw [hX3, upR_upR, upR_same]; rfl) _ _ hP hD hS ls (lv_sub hl [0, 2, 1, 3, 4, 5, 6] rfl)
                              · skip
                                refine lv_iconst (v := nI 1) hx hb dX3_reachAll_107 (by decide) ?_
                                refine lv_goto (tgt := 112) hx hb dX3_reachAll_108 (by decide) ?_
                                refine lv_istore (lv' := [(4, .int (nI 1)), (6, .int (nI d)), (5, .int (nI j)), (0, .ref (q 0)), (1, .int (nI b0)), (2, .int (nI a0)), (3, .int (nI h0))]) hx hb dX3_reachAll_112 hl (by decide) rfl (fun ls hl => ?_)
                                refine lv_iinc (v := nI (d + 1)) (lv' := [(6, .int (nI (d + 1))), (4, .int (nI 1)), (5, .int (nI j)), (0, .ref (q 0)), (1, .int (nI b0)), (2, .int (nI a0)), (3, .int (nI h0))]) hx hb dX3_reachAll_114 hl (k := 1) rfl (nI_add _ 1) (by decide) rfl (fun ls hl => ?_)
                                refine lv_goto (tgt := 83) hx hb dX3_reachAll_117 (by decide) ?_
                                exact ih83 (d + 1) 1 ((upR X3 1 (rlx S (opn S (S 11 b0) h0) (X3 1) (2 * j + d)))) (by omega) (by omega) (by rw [hX3, upR_same] at h_99; rw [show 2 * j + (d + 1) = 2 * j + d + 1 from rfl]; first | exact chg_y h_99 | exact chg_o hf3 h_104 | exact chg_z hf3 h_104 h_99) (by rw [hX3, upR_upR, upR_same]; rfl) _ _ hP hD hS ls (lv_sub hl [0, 2, 1, 3, 4, 5, 6] rfl)
                      exact L83 3 0 f2 X2 (by omega) (by omega) hf2 hX2 _ _ hP hD hS ls hl
                exact L71 (S 0 1 + 1) 0 0 X (by omega) (by omega) rfl hX1 _ _ hP hD hS ls hl
          have hY2 := rs_A (S := S) (Z := Z) ha (by omega)
          rw [show i = 2 * S 0 0 by omega] at hY
          exact L60 42 0 1 ((up2 (up2 Y 1 ((2 * a0) + 1) 0) 1 (2 * a0) 0)) (by omega) (by omega) (Or.inl ⟨rfl, by omega⟩) (by rw [hY]; first | (rw [up2, up2, upR_upR, upR_upR, upR_same, upR_same]; exact congrArg (upR Z 1) (hY2.2 h_45)) | (rw [up2, upR_upR, upR_same]; exact congrArg (upR Z 1) (hY2.1 h_45))) _ _ hP hD hS ls hl
      · skip
        refine lv_aload_n hx hb dX3_reachAll_14 rfl (lv_at hl 1 rfl) ?_
        refine va_get (D := D) (v := .ref (q 14)) hx hb hts hin_X3 hown hX.1 hP 0 rfl rfl 20 (by decide) hf_50 (fun _ h9 => h9) rfl dX3_reachAll_15 ?_
        refine lv_iload hx hb dX3_reachAll_18 (lv_at hl 0 rfl) ?_
        refine lv_iconst (v := pI 0) hx hb dX3_reachAll_20 (by decide) ?_
        refine na_as (y := rI 1000000) rI_none.symm ?_
        refine na_iast hx hb hX.1 hP hD hS 14 0 rfl rfl (by omega) (by decide) (upd_enc rI _ _ _) dX3_reachAll_21 (fun H locs hP hD hS => ?_)
        have hP : va_P D vwCl (wM q k S (up2 Y 1 i 1000000)) H := sP_M14 hP
        have hD : va_D A (wM q k S (up2 Y 1 i 1000000)) := sD_M14 hD
        refine lv_iinc (v := nI (i + 1)) (lv' := [(4, .int (nI (i + 1))), (0, .ref (q 0)), (1, .int (nI b0)), (2, .int (nI a0)), (3, .int (nI h0))]) hx hb dX3_reachAll_22 hl (k := 0) rfl (nI_add _ 1) (by decide) rfl (fun ls hl => ?_)
        refine lv_goto (tgt := 3) hx hb dX3_reachAll_25 (by decide) ?_
        exact ih3 (i + 1) ((up2 Y 1 i 1000000)) (by omega) (by omega) (by rw [hY]; exact fillA_s Z 1 i 1000000) _ _ hP hD hS ls hl
  exact L3 (2 * S 0 0 + 1) 0 Z (by omega) (by omega) (fillA_0 Z 1 1000000) _ _ hP hD hS ls hl
