set_option maxHeartbeats 4000000 in
set_option maxRecDepth 100000 in
theorem k_X3_lower (l : Launch) (D : va_G) (q : Nat → Nat) (k : Nat → ClassId) (S Z : Nat → Nat → Nat) (sz : Nat) (b0 : Nat) (j0 : Nat) (d0 : Nat) (h0 : Nat) (hB : Bd S) (hJ : Jn S) (hR : Rb (Z 1)) (hb0 : b0 < 6) (hj : 2 * j0 + d0 < S 0 1) (hd : d0 < 2) (hh : h0 < 24) : Met l yX3_lower wsX3_lower ({ frames := 3, cells := 0, slots := 0, locals := 72 } : Room) (va_Pc [.ref (q 0), .int (nI b0), .int (nI j0), .int (nI d0), .int (nI h0)] (wB D k (wM q k S Z) sz)) (va_Qi (fun (r : Int32) (u : (Nat → Nat → Nat) × (Nat → Nat → Nat)) => r = nI (bN (decide (sBh S (opn S (S 11 b0) h0) (Z 1) (2 * j0 + d0) < Z 1 (fl (S 8 (2 * j0 + d0)))))) ∧ u.1 = S ∧ u.2 = upR Z 1 (rlx S (opn S (S 11 b0) h0) (Z 1) (2 * j0 + d0))) (fun u t => wE D (va_A (wM q k S Z) sz) (wM q k u.1 u.2) t) (va_A (wM q k S Z) sz)) 0 0 (va_A (wM q k S Z) sz) := by
  refine Met.ofW (cc := cX3_lower) (maxL := 7) (ret := (some .boolean)) (by decide) rfl ?_
  intro p e s m args below meth c s₁ B hml hv
  obtain ⟨rfl, hsz, hP, hX, hD0⟩ := hv
  have hx := B.exec
  have hb := B.bytes
  have hr := B.returns
  have hts := atoms_spec (ws := wsX3_lower) B.pre
  have hown : s.vm.findClass RX3 = some m.cls := findClass_of_methodNamed B.named
  have hlocks := B.notSynchronized
  subst hsz
  have hD := hD0.self (sz := s.heap.size)
  generalize hAe : va_A (wM q k S Z) s.heap.size = A at hD ⊢
  have hA : ∀ q : Nat, s.heap.size ≤ q → A q := fun q h => by rw [← hAe]; exact Or.inr h
  have hS : va_S A s.heap s.heap [] := va_S.rf
  have hP : va_P D vwCl (wM q k S Z) s.heap := hP
  have hf_50 := hts (.fieldLink RX3 50 "FloorGraphModel" "reached" "[I") (by decide +kernel)
  have hin_X3 : ∀ w ∈ u_ws RX3 TX3 24, w ∈ wsX3_lower := by decide +kernel
  have f0 := hB.1
  have f7 := hB.2.2.2.1 (2 * j0 + d0) hj
  have ff0 : fl (S 8 (2 * j0 + d0)) < 2 * 20 := fl_lt (by omega)
  have fr := hR (fl (S 8 (2 * j0 + d0)))
  have fs := sBh_le (fun p => (hB.2.2.1 p).1) (fun i => (hB.2.1 i).2.1) hR.le (o := opn S (S 11 b0) h0) (2 * j0 + d0)
  have fb := sBh_b (fun p => (hB.2.2.1 p).1) (fun i => (hB.2.1 i).2.1) hR (o := opn S (S 11 b0) h0) (2 * j0 + d0)
  have hl := lv_entry ([.ref (q 0), .int (nI b0), .int (nI j0), .int (nI d0), .int (nI h0)]) (n := 7) (Nat.le_of_ble_eq_true rfl)
  rw [lg_entry_eq]
  generalize (lg_sl ([.ref (q 0), .int (nI b0), .int (nI j0), .int (nI d0), .int (nI h0)]) ++ List.replicate (7 - (lg_sl ([.ref (q 0), .int (nI b0), .int (nI j0), .int (nI d0), .int (nI h0)])).length) Slot.unset).toArray = ls at hl ⊢
  have hl : lv_has ls 7 [(0, .ref (q 0)), (1, .int (nI b0)), (2, .int (nI j0)), (3, .int (nI d0)), (4, .int (nI h0))] := hl
  refine lv_aload_n hx hb dX3_lower_0 rfl (lv_at hl 0 rfl) ?_
  refine lv_iload_n hx hb dX3_lower_1 rfl (lv_at hl 1 rfl) ?_
  refine lv_iload_n hx hb dX3_lower_2 rfl (lv_at hl 2 rfl) ?_
  refine lv_iload_n hx hb dX3_lower_3 rfl (lv_at hl 3 rfl) ?_
  refine lv_iload hx hb dX3_lower_4 (lv_at hl 4 rfl) ?_
  refine rd_V (As := [.int (nI b0), .int (nI j0), .int (nI d0), .int (nI h0)]) (rest := []) ⟨hx, hb, hml, hown, hts⟩ (k_X3_through l D q k S Z b0 j0 d0 h0 hB hJ hR hb0 hj hd hh) (cwV 4 hts gX3_lower_X3_through rfl rfl rfl (by decide +kernel) ⟨by decide, by decide⟩) hX hP (q0 := 0) rfl rfl rfl hl.1 rfl (Nat.le_of_ble_eq_true rfl) dX3_lower_6 ⟨Nat.zero_le _, Nat.zero_le _⟩ ?_
  refine lv_istore (lv' := [(5, .int (rI (sBh S (opn S (S 11 b0) h0) (Z 1) (2 * j0 + d0)))), (0, .ref (q 0)), (1, .int (nI b0)), (2, .int (nI j0)), (3, .int (nI d0)), (4, .int (nI h0))]) hx hb dX3_lower_9 hl (by decide) rfl (fun ls hl => ?_)
  refine lv_aload_n hx hb dX3_lower_11 rfl (lv_at hl 1 rfl) ?_
  refine lv_iload_n hx hb dX3_lower_12 rfl (lv_at hl 3 rfl) ?_
  refine lv_iload_n hx hb dX3_lower_13 rfl (lv_at hl 4 rfl) ?_
  refine rd_V (As := [.int (nI j0), .int (nI d0)]) (rest := []) ⟨hx, hb, hml, hown, hts⟩ (k_X3_to l D q k S Z j0 d0 hJ (by omega) hd) (cwV 2 hts gX3_lower_X3_to rfl rfl rfl (by decide +kernel) ⟨by decide, by decide⟩) hX hP (q0 := 0) rfl rfl rfl hl.1 rfl (Nat.le_of_ble_eq_true rfl) dX3_lower_14 ⟨Nat.zero_le _, Nat.zero_le _⟩ ?_
  refine lv_iconst (v := nI 1) hx hb dX3_lower_17 (by decide) ?_
  refine na_ixor1 hx hb (by omega) dX3_lower_18 ?_
  refine lv_istore (lv' := [(6, .int (nI (fl (S 8 (2 * j0 + d0))))), (5, .int (rI (sBh S (opn S (S 11 b0) h0) (Z 1) (2 * j0 + d0)))), (0, .ref (q 0)), (1, .int (nI b0)), (2, .int (nI j0)), (3, .int (nI d0)), (4, .int (nI h0))]) hx hb dX3_lower_19 hl (by decide) rfl (fun ls hl => ?_)
  refine lv_iload hx hb dX3_lower_21 (lv_at hl 1 rfl) ?_
  refine lv_iconst (v := pI 0) hx hb dX3_lower_23 (by decide) ?_
  refine nz_icmp_eq (tgt := 50) hx hb (by omega) dX3_lower_24 (by decide) (fun h_24 => ?_) (fun h_24 => ?_)
  · skip
    refine lv_iconst (v := nI 0) hx hb dX3_lower_50 (by decide) ?_
    exact W.zret (v := nI 0) hx hb hr (nar_b _ (by first | decide | omega | exact bN_le _)) (fun t ht hW => ⟨⟨_, (S, Z), rfl, ⟨bN0 (decide_eq_false (by omega)), rfl, by rw [rlx, if_neg (by omega), upR_id]⟩, by rw [ht]; exact hP, hD⟩, hS.F ht⟩) hS.2.2 dX3_lower_51
  · skip
    refine lv_aload_n hx hb dX3_lower_27 rfl (lv_at hl 2 rfl) ?_
    refine va_get (D := D) (v := .ref (q 14)) hx hb hts hin_X3 hown hX.1 hP 0 rfl rfl 20 (by decide) hf_50 (fun _ h9 => h9) rfl dX3_lower_28 ?_
    refine lv_iload hx hb dX3_lower_31 (lv_at hl 0 rfl) ?_
    refine na_iald hx hb hX.1 hP 14 0 rfl rfl (by omega) (by decide) dX3_lower_33 ?_
    refine lv_iconst (v := pI 0) hx hb dX3_lower_34 (by decide) ?_
    refine nz_icmp_eq (tgt := 52) hx hb (by omega) dX3_lower_35 (by decide) (fun h_35 => ?_) (fun h_35 => ?_)
    · skip
      refine lv_aload_n hx hb dX3_lower_52 rfl (lv_at hl 2 rfl) ?_
      refine va_get (D := D) (v := .ref (q 14)) hx hb hts hin_X3 hown hX.1 hP 0 rfl rfl 20 (by decide) hf_50 (fun _ h9 => h9) rfl dX3_lower_53 ?_
      refine lv_iload hx hb dX3_lower_56 (lv_at hl 0 rfl) ?_
      refine lv_iload hx hb dX3_lower_58 (lv_at hl 1 rfl) ?_
      refine na_iast hx hb hX.1 hP hD hS 14 0 rfl rfl (by omega) (by decide) (upd_enc rI _ _ _) dX3_lower_60 (fun H locs hP hD hS => ?_)
      have hP : va_P D vwCl (wM q k S (up2 Z 1 (fl (S 8 (2 * j0 + d0))) (sBh S (opn S (S 11 b0) h0) (Z 1) (2 * j0 + d0)))) H := hP
      have hD : va_D A (wM q k S (up2 Z 1 (fl (S 8 (2 * j0 + d0))) (sBh S (opn S (S 11 b0) h0) (Z 1) (2 * j0 + d0)))) := hD
      refine lv_iconst (v := nI 1) hx hb dX3_lower_61 (by decide) ?_
      exact W.zret (v := nI 1) hx hb hr (nar_b _ (by first | decide | omega | exact bN_le _)) (fun t ht hW => ⟨⟨_, (S, (up2 Z 1 (fl (S 8 (2 * j0 + d0))) (sBh S (opn S (S 11 b0) h0) (Z 1) (2 * j0 + d0)))), rfl, ⟨bN1 (decide_eq_true (by omega)), rfl, by rw [rlx, if_pos (by omega)]; rfl⟩, by rw [ht]; exact hP, hD⟩, hS.F ht⟩) hS.2.2 dX3_lower_62
    · skip
      refine lv_aload_n hx hb dX3_lower_38 rfl (lv_at hl 2 rfl) ?_
      refine va_get (D := D) (v := .ref (q 14)) hx hb hts hin_X3 hown hX.1 hP 0 rfl rfl 20 (by decide) hf_50 (fun _ h9 => h9) rfl dX3_lower_39 ?_
      refine lv_iload hx hb dX3_lower_42 (lv_at hl 0 rfl) ?_
      refine na_iald hx hb hX.1 hP 14 0 rfl rfl (by omega) (by decide) dX3_lower_44 ?_
      refine na_as (y := nI (Z 1 (fl (S 8 (2 * j0 + d0))))) (rI_some h_35) ?_
      refine lv_iload hx hb dX3_lower_45 (lv_at hl 1 rfl) ?_
      refine na_as (y := nI (sBh S (opn S (S 11 b0) h0) (Z 1) (2 * j0 + d0))) (rI_some h_24) ?_
      refine na_icmp_gt (tgt := 52) hx hb (by omega) (by omega) dX3_lower_47 (by decide) (fun h_47 => ?_) (fun h_47 => ?_)
      · skip
        refine lv_aload_n hx hb dX3_lower_52 rfl (lv_at hl 2 rfl) ?_
        refine va_get (D := D) (v := .ref (q 14)) hx hb hts hin_X3 hown hX.1 hP 0 rfl rfl 20 (by decide) hf_50 (fun _ h9 => h9) rfl dX3_lower_53 ?_
        refine lv_iload hx hb dX3_lower_56 (lv_at hl 0 rfl) ?_
        refine lv_iload hx hb dX3_lower_58 (lv_at hl 1 rfl) ?_
        refine na_iast hx hb hX.1 hP hD hS 14 0 rfl rfl (by omega) (by decide) (upd_enc rI _ _ _) dX3_lower_60 (fun H locs hP hD hS => ?_)
        have hP : va_P D vwCl (wM q k S (up2 Z 1 (fl (S 8 (2 * j0 + d0))) (sBh S (opn S (S 11 b0) h0) (Z 1) (2 * j0 + d0)))) H := hP
        have hD : va_D A (wM q k S (up2 Z 1 (fl (S 8 (2 * j0 + d0))) (sBh S (opn S (S 11 b0) h0) (Z 1) (2 * j0 + d0)))) := hD
        refine lv_iconst (v := nI 1) hx hb dX3_lower_61 (by decide) ?_
        exact W.zret (v := nI 1) hx hb hr (nar_b _ (by first | decide | omega | exact bN_le _)) (fun t ht hW => ⟨⟨_, (S, (up2 Z 1 (fl (S 8 (2 * j0 + d0))) (sBh S (opn S (S 11 b0) h0) (Z 1) (2 * j0 + d0)))), rfl, ⟨bN1 (decide_eq_true (by omega)), rfl, by rw [rlx, if_pos (by omega)]; rfl⟩, by rw [ht]; exact hP, hD⟩, hS.F ht⟩) hS.2.2 dX3_lower_62
      · skip
        refine lv_iconst (v := nI 0) hx hb dX3_lower_50 (by decide) ?_
        exact W.zret (v := nI 0) hx hb hr (nar_b _ (by first | decide | omega | exact bN_le _)) (fun t ht hW => ⟨⟨_, (S, Z), rfl, ⟨bN0 (decide_eq_false (by omega)), rfl, by rw [rlx, if_neg (by omega), upR_id]⟩, by rw [ht]; exact hP, hD⟩, hS.F ht⟩) hS.2.2 dX3_lower_51
