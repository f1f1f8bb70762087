set_option maxHeartbeats 4000000 in
set_option maxRecDepth 100000 in
theorem k_X3_through (l : Launch) (D : va_G) (q : Nat → Nat) (k : Nat → ClassId) (S Z : Nat → Nat → Nat) (b0 : Nat) (j0 : Nat) (d0 : Nat) (h0 : Nat) (hB : Bd S) (hJ : Jn S) (hR : Rb (Z 1)) (hb0 : b0 < 6) (hj : 2 * j0 + d0 < S 0 1) (hd : d0 < 2) (hh : h0 < 24) : Met l yX3_through wsX3_through ({ frames := 2, cells := 0, slots := 0, locals := 48 } : Room) (va_Pc [.ref (q 0), .int (nI b0), .int (nI j0), .int (nI d0), .int (nI h0)] (rB D k (wM q k S Z))) (vp_Si (fun r => r = rI (sBh S (opn S (S 11 b0) h0) (Z 1) (2 * j0 + d0)))) 0 0 (fun _ => False) := by
  refine Met.ofW (cc := cX3_through) (maxL := 5) (ret := (some .int)) (by decide) rfl ?_
  intro p e s m args below meth c s₁ B hml hv
  obtain ⟨rfl, hP, hX⟩ := hv
  have hx := B.exec
  have hb := B.bytes
  have hr := B.returns
  have hts := atoms_spec (ws := wsX3_through) B.pre
  have hown : s.vm.findClass RX3 = some m.cls := findClass_of_methodNamed B.named
  have hlocks := B.notSynchronized
  have hf_13 := hts (.fieldLink RX3 13 "FloorGraphModel" "length" "[I") (by decide +kernel)
  have hf_35 := hts (.fieldLink RX3 35 "FloorGraphModel" "turning" "[I") (by decide +kernel)
  have hf_50 := hts (.fieldLink RX3 50 "FloorGraphModel" "reached" "[I") (by decide +kernel)
  have hin_X3 : ∀ w ∈ u_ws RX3 TX3 24, w ∈ wsX3_through := by decide +kernel
  have f0 := hB.1
  have f7 := hB.2.2.2.1 (2 * j0 + d0) hj
  have fr := hR (S 7 (2 * j0 + d0))
  have f9 := (hB.2.2.1 (2 * j0 + d0)).1
  have f2 := hB.2.1 (S 8 (2 * j0 + d0) / 2)
  have ft := hJ.nine j0 d0 hd
  have fo := bN_le (opn S (S 11 b0) h0 (2 * j0 + d0))
  have hl := lv_entry ([.ref (q 0), .int (nI b0), .int (nI j0), .int (nI d0), .int (nI h0)]) (n := 5) (Nat.le_of_ble_eq_true rfl)
  rw [lg_entry_eq]
  generalize (lg_sl ([.ref (q 0), .int (nI b0), .int (nI j0), .int (nI d0), .int (nI h0)]) ++ List.replicate (5 - (lg_sl ([.ref (q 0), .int (nI b0), .int (nI j0), .int (nI d0), .int (nI h0)])).length) Slot.unset).toArray = ls at hl ⊢
  have hl : lv_has ls 5 [(0, .ref (q 0)), (1, .int (nI b0)), (2, .int (nI j0)), (3, .int (nI d0)), (4, .int (nI h0))] := hl
  refine lv_aload_n hx hb dX3_through_0 rfl (lv_at hl 0 rfl) ?_
  refine va_get (D := D) (v := .ref (q 14)) hx hb hts hin_X3 hown hX.1 hP 0 rfl rfl 20 (by decide) hf_50 (fun _ h9 => h9) rfl dX3_through_1 ?_
  refine lv_aload_n hx hb dX3_through_4 rfl (lv_at hl 0 rfl) ?_
  refine lv_iload_n hx hb dX3_through_5 rfl (lv_at hl 2 rfl) ?_
  refine lv_iload_n hx hb dX3_through_6 rfl (lv_at hl 3 rfl) ?_
  refine rd_V (As := [.int (nI j0), .int (nI d0)]) (rest := [.ref (q 14)]) ⟨hx, hb, hml, hown, hts⟩ (k_X3_from l D q k S Z j0 d0 hJ (by omega) hd) (cwV 2 hts gX3_through_X3_from rfl rfl rfl (by decide +kernel) ⟨by decide, by decide⟩) hX hP (q0 := 0) rfl rfl rfl hl.1 rfl (Nat.le_of_ble_eq_true rfl) dX3_through_7 ⟨Nat.zero_le _, Nat.zero_le _⟩ ?_
  refine na_iald hx hb hX.1 hP 14 0 rfl rfl (by omega) (by decide) dX3_through_10 ?_
  refine lv_iconst (v := pI 0) hx hb dX3_through_11 (by decide) ?_
  refine nz_icmp_eq (tgt := 27) hx hb (by omega) dX3_through_12 (by decide) (fun h_12 => ?_) (fun h_12 => ?_)
  · skip
    refine lv_iconst (v := pI 0) hx hb dX3_through_27 (by decide) ?_
    exact W.iret (v := pI 0) hx hb hr (fun t ht hW => ⟨_, rfl, by rw [sBh_none (sAt_none (by first | exact fun q => q.2 h_12 | exact fun q => bN_no h_24 q.1))]; exact rI_none.symm, ht⟩) (fun _ h => by cases h) dX3_through_28
  · skip
    refine lv_aload_n hx hb dX3_through_15 rfl (lv_at hl 0 rfl) ?_
    refine lv_iload_n hx hb dX3_through_16 rfl (lv_at hl 1 rfl) ?_
    refine lv_iload_n hx hb dX3_through_17 rfl (lv_at hl 2 rfl) ?_
    refine lv_iload_n hx hb dX3_through_18 rfl (lv_at hl 3 rfl) ?_
    refine lv_iload hx hb dX3_through_19 (lv_at hl 4 rfl) ?_
    refine rd_V (As := [.int (nI b0), .int (nI j0), .int (nI d0), .int (nI h0)]) (rest := []) ⟨hx, hb, hml, hown, hts⟩ (k_X3_mayGo l D q k S Z b0 j0 d0 h0 hB hJ hb0 hj hd hh) (cwV 4 hts gX3_through_X3_mayGo rfl rfl rfl (by decide +kernel) ⟨by decide, by decide⟩) hX hP (q0 := 0) rfl rfl rfl hl.1 rfl (Nat.le_of_ble_eq_true rfl) dX3_through_21 ⟨Nat.zero_le _, Nat.zero_le _⟩ ?_
    refine na_if_ne (tgt := 29) hx hb (by omega) dX3_through_24 (by decide) (fun h_24 => ?_) (fun h_24 => ?_)
    · skip
      refine lv_aload_n hx hb dX3_through_29 rfl (lv_at hl 0 rfl) ?_
      refine va_get (D := D) (v := .ref (q 14)) hx hb hts hin_X3 hown hX.1 hP 0 rfl rfl 20 (by decide) hf_50 (fun _ h9 => h9) rfl dX3_through_30 ?_
      refine lv_aload_n hx hb dX3_through_33 rfl (lv_at hl 0 rfl) ?_
      refine lv_iload_n hx hb dX3_through_34 rfl (lv_at hl 2 rfl) ?_
      refine lv_iload_n hx hb dX3_through_35 rfl (lv_at hl 3 rfl) ?_
      refine rd_V (As := [.int (nI j0), .int (nI d0)]) (rest := [.ref (q 14)]) ⟨hx, hb, hml, hown, hts⟩ (k_X3_from l D q k S Z j0 d0 hJ (by omega) hd) (cwV 2 hts gX3_through_X3_from rfl rfl rfl (by decide +kernel) ⟨by decide, by decide⟩) hX hP (q0 := 0) rfl rfl rfl hl.1 rfl (Nat.le_of_ble_eq_true rfl) dX3_through_36 ⟨Nat.zero_le _, Nat.zero_le _⟩ ?_
      refine na_iald hx hb hX.1 hP 14 0 rfl rfl (by omega) (by decide) dX3_through_39 ?_
      refine na_as (y := nI (Z 1 (S 7 (2 * j0 + d0)))) (rI_some h_12) ?_
      refine lv_aload_n hx hb dX3_through_40 rfl (lv_at hl 0 rfl) ?_
      refine va_get (D := D) (v := .ref (q 9)) hx hb hts hin_X3 hown hX.1 hP 0 rfl rfl 11 (by decide) hf_35 (fun _ h9 => h9) rfl dX3_through_41 ?_
      refine lv_iload_n hx hb dX3_through_44 rfl (lv_at hl 2 rfl) ?_
      refine na_iald hx hb hX.1 hP 9 0 rfl rfl (by omega) (by decide) dX3_through_45 ?_
      refine na_iadd hx hb dX3_through_46 ?_
      refine lv_aload_n hx hb dX3_through_47 rfl (lv_at hl 0 rfl) ?_
      refine va_get (D := D) (v := .ref (q 2)) hx hb hts hin_X3 hown hX.1 hP 0 rfl rfl 3 (by decide) hf_13 (fun _ h9 => h9) rfl dX3_through_48 ?_
      refine lv_aload_n hx hb dX3_through_51 rfl (lv_at hl 0 rfl) ?_
      refine lv_iload_n hx hb dX3_through_52 rfl (lv_at hl 2 rfl) ?_
      refine lv_iload_n hx hb dX3_through_53 rfl (lv_at hl 3 rfl) ?_
      refine rd_V (As := [.int (nI j0), .int (nI d0)]) (rest := [.ref (q 2), .int (nI ((Z 1 (S 7 (2 * j0 + d0))) + (S 9 (2 * j0))))]) ⟨hx, hb, hml, hown, hts⟩ (k_X3_to l D q k S Z j0 d0 hJ (by omega) hd) (cwV 2 hts gX3_through_X3_to rfl rfl rfl (by decide +kernel) ⟨by decide, by decide⟩) hX hP (q0 := 0) rfl rfl rfl hl.1 rfl (Nat.le_of_ble_eq_true rfl) dX3_through_54 ⟨Nat.zero_le _, Nat.zero_le _⟩ ?_
      refine lv_iconst (v := nI 2) hx hb dX3_through_57 (by decide) ?_
      refine na_idiv2 hx hb (by omega) dX3_through_58 ?_
      refine na_iald hx hb hX.1 hP 2 0 rfl rfl (by omega) (by decide) dX3_through_59 ?_
      refine na_iadd hx hb dX3_through_60 ?_
      exact W.iret (v := nI (((Z 1 (S 7 (2 * j0 + d0))) + (S 9 (2 * j0))) + (S 2 ((S 8 (2 * j0 + d0)) / 2)))) hx hb hr (fun t ht hW => ⟨_, rfl, by rw [sBh_some (by rw [sAt_some (bN_pos h_24) h_12]; omega), sAt_some (bN_pos h_24) h_12, rI_some (by omega), ft], ht⟩) (fun _ h => by cases h) dX3_through_61
    · skip
      refine lv_iconst (v := pI 0) hx hb dX3_through_27 (by decide) ?_
      exact W.iret (v := pI 0) hx hb hr (fun t ht hW => ⟨_, rfl, by rw [sBh_none (sAt_none (by first | exact fun q => q.2 h_12 | exact fun q => bN_no h_24 q.1))]; exact rI_none.symm, ht⟩) (fun _ h => by cases h) dX3_through_28

set_option maxHeartbeats 4000000 in
set_option maxRecDepth 100000 in
theorem k_X3_secondsTo (l : Launch) (D : va_G) (q : Nat → Nat) (k : Nat → ClassId) (S Z : Nat → Nat → Nat) (b0 : Nat) (a0 : Nat) (p0 : Nat) (h0 : Nat) (hB : Bd S) (hJ : Jn S) (hR : Rb (Z 1)) (hb0 : b0 < 6) (ha : a0 < 20) (hp : p0 < 20) (hh : h0 < 24) : Met l yX3_secondsTo wsX3_secondsTo ({ frames := 2, cells := 0, slots := 0, locals := 48 } : Room) (va_Pc [.ref (q 0), .int (nI b0), .int (nI a0), .int (nI p0), .int (nI h0)] (rB D k (wM q k S Z))) (vp_Si (fun r => r = rI (sTo S (opn S (S 11 b0) h0) (Z 1) a0 p0))) 0 0 (fun _ => False) := by
  refine Met.ofW (cc := cX3_secondsTo) (maxL := 9) (ret := (some .int)) (by decide) rfl ?_
  intro p e s m args below meth c s₁ B hml hv
  obtain ⟨rfl, hP, hX⟩ := hv
  have hx := B.exec
  have hb := B.bytes
  have hr := B.returns
  have hts := atoms_spec (ws := wsX3_secondsTo) B.pre
  have hown : s.vm.findClass RX3 = some m.cls := findClass_of_methodNamed B.named
  have hlocks := B.notSynchronized
  have hf_35 := hts (.fieldLink RX3 35 "FloorGraphModel" "turning" "[I") (by decide +kernel)
  have hf_50 := hts (.fieldLink RX3 50 "FloorGraphModel" "reached" "[I") (by decide +kernel)
  have hf_73 := hts (.fieldLink RX3 73 "FloorGraphModel" "joins" "I") (by decide +kernel)
  have hin_X3 : ∀ w ∈ u_ws RX3 TX3 24, w ∈ wsX3_secondsTo := by decide +kernel
  have f0 := hB.1
  have fj := hJ.1
  have hl := lv_entry ([.ref (q 0), .int (nI b0), .int (nI a0), .int (nI p0), .int (nI h0)]) (n := 9) (Nat.le_of_ble_eq_true rfl)
  rw [lg_entry_eq]
  generalize (lg_sl ([.ref (q 0), .int (nI b0), .int (nI a0), .int (nI p0), .int (nI h0)]) ++ List.replicate (9 - (lg_sl ([.ref (q 0), .int (nI b0), .int (nI a0), .int (nI p0), .int (nI h0)])).length) Slot.unset).toArray = ls at hl ⊢
  have hl : lv_has ls 9 [(0, .ref (q 0)), (1, .int (nI b0)), (2, .int (nI a0)), (3, .int (nI p0)), (4, .int (nI h0))] := hl
  refine lv_iload_n hx hb dX3_secondsTo_0 rfl (lv_at hl 3 rfl) ?_
  refine lv_iload_n hx hb dX3_secondsTo_1 rfl (lv_at hl 2 rfl) ?_
  refine na_icmp_ne (tgt := 7) hx hb (by omega) (by omega) dX3_secondsTo_2 (by decide) (fun h_2 => ?_) (fun h_2 => ?_)
  · skip
    refine lv_iconst (v := pI 0) hx hb dX3_secondsTo_7 (by decide) ?_
    refine na_as (y := rI 1000000) rI_none.symm ?_
    refine lv_istore (lv' := [(5, .int (rI 1000000)), (0, .ref (q 0)), (1, .int (nI b0)), (2, .int (nI a0)), (3, .int (nI p0)), (4, .int (nI h0))]) hx hb dX3_secondsTo_8 hl (by decide) rfl (fun ls hl => ?_)
    refine lv_iconst (v := nI 0) hx hb dX3_secondsTo_10 (by decide) ?_
    refine lv_istore (lv' := [(6, .int (nI 0)), (5, .int (rI 1000000)), (0, .ref (q 0)), (1, .int (nI b0)), (2, .int (nI a0)), (3, .int (nI p0)), (4, .int (nI h0))]) hx hb dX3_secondsTo_11 hl (by decide) rfl (fun ls hl => ?_)
    have L13 : ∀ (n13 : Nat) (i : Nat) (x : Nat), (S 0 1 / 2 < i + n13) → (h1 : 2 * i ≤ S 0 1) → (h3 : (lpB S (opn S (S 11 b0) h0) (Z 1) p0 (2 * i)).2 = x) → ∀ (ls : Array Slot), lv_has ls 9 [(6, .int (nI i)), (5, .int (rI x)), (0, .ref (q 0)), (1, .int (nI b0)), (2, .int (nI a0)), (3, .int (nI p0)), (4, .int (nI h0))] → W p l e (headSpec wsX3_secondsTo ({ frames := 2, cells := 0, slots := 0, locals := 48 } : Room)).room s m [.ref (q 0), .int (nI b0), .int (nI a0), .int (nI p0), .int (nI h0)].toArray below meth c s.heap [] 0 0 (MQ below (vp_Si (fun r => r = rI (sTo S (opn S (S 11 b0) h0) (Z 1) a0 p0))) [.ref (q 0), .int (nI b0), .int (nI a0), .int (nI p0), .int (nI h0)].toArray s 0 0 (fun _ => False)) (F0 m 13 ls []) := by
      intro n13
      induction n13 with
      | zero =>
        intro i x hfuel13 h1 h3 ls hl
        exact absurd hfuel13 (by omega)
      | succ n13 ih13 =>
        intro i x hfuel13 h1 h3 ls hl
        refine lv_iload hx hb dX3_secondsTo_13 (lv_at hl 0 rfl) ?_
        refine lv_aload_n hx hb dX3_secondsTo_15 rfl (lv_at hl 2 rfl) ?_
        refine va_get (D := D) (v := .int (nI ((S 0 1) / 2))) hx hb hts hin_X3 hown hX.1 hP 0 rfl rfl 8 (by decide) hf_73 (fun _ h9 => h9) rfl dX3_secondsTo_16 ?_
        refine na_icmp_ge (tgt := 136) hx hb (by omega) (by omega) dX3_secondsTo_19 (by decide) (fun h_19 => ?_) (fun h_19 => ?_)
        · skip
          refine lv_iload hx hb dX3_secondsTo_136 (lv_at hl 1 rfl) ?_
          exact W.iret (v := rI x) hx hb hr (fun t ht hW => ⟨_, rfl, by rw [sTo, if_neg (fun q => h_2 q.symm), ← h3, show 2 * i = S 0 1 by omega], ht⟩) (fun _ h => by cases h) dX3_secondsTo_138
        · skip
          refine lv_iconst (v := nI 0) hx hb dX3_secondsTo_22 (by decide) ?_
          refine lv_istore (lv' := [(7, .int (nI 0)), (6, .int (nI i)), (5, .int (rI x)), (0, .ref (q 0)), (1, .int (nI b0)), (2, .int (nI a0)), (3, .int (nI p0)), (4, .int (nI h0))]) hx hb dX3_secondsTo_23 hl (by decide) rfl (fun ls hl => ?_)
          have L25 : ∀ (n25 : Nat) (d : Nat) (y : Nat), (2 < d + n25) → (h4 : d ≤ 2) → (h5 : (lpB S (opn S (S 11 b0) h0) (Z 1) p0 (2 * i + d)).2 = y) → ∀ (ls : Array Slot), lv_has ls 9 [(7, .int (nI d)), (6, .int (nI i)), (5, .int (rI y)), (0, .ref (q 0)), (1, .int (nI b0)), (2, .int (nI a0)), (3, .int (nI p0)), (4, .int (nI h0))] → W p l e (headSpec wsX3_secondsTo ({ frames := 2, cells := 0, slots := 0, locals := 48 } : Room)).room s m [.ref (q 0), .int (nI b0), .int (nI a0), .int (nI p0), .int (nI h0)].toArray below meth c s.heap [] 0 0 (MQ below (vp_Si (fun r => r = rI (sTo S (opn S (S 11 b0) h0) (Z 1) a0 p0))) [.ref (q 0), .int (nI b0), .int (nI a0), .int (nI p0), .int (nI h0)].toArray s 0 0 (fun _ => False)) (F0 m 25 ls []) := by
            intro n25
            induction n25 with
            | zero =>
              intro d y hfuel25 h4 h5 ls hl
              exact absurd hfuel25 (by omega)
            | succ n25 ih25 =>
              intro d y hfuel25 h4 h5 ls hl
              have f3 := (lpB_ok (S := S) (o := opn S (S 11 b0) h0) (r := Z 1) (t := p0) (2 * i + d)).2.1
              rw [h5] at f3
              refine lv_iload hx hb dX3_secondsTo_25 (lv_at hl 0 rfl) ?_
              refine lv_iconst (v := nI 2) hx hb dX3_secondsTo_27 (by decide) ?_
              refine na_icmp_ge (tgt := 130) hx hb (by omega) (by omega) dX3_secondsTo_28 (by decide) (fun h_28 => ?_) (fun h_28 => ?_)
              · skip
                refine lv_iinc (v := nI (i + 1)) (lv' := [(6, .int (nI (i + 1))), (7, .int (nI d)), (5, .int (rI y)), (0, .ref (q 0)), (1, .int (nI b0)), (2, .int (nI a0)), (3, .int (nI p0)), (4, .int (nI h0))]) hx hb dX3_secondsTo_130 hl (k := 1) rfl (nI_add _ 1) (by decide) rfl (fun ls hl => ?_)
                refine lv_goto (tgt := 13) hx hb dX3_secondsTo_133 (by decide) ?_
                exact ih13 (i + 1) y (by omega) (by omega) (by rw [show 2 * (i + 1) = 2 * i + d by omega]; exact h5) ls (lv_sub hl [0, 2, 3, 4, 5, 6, 7] rfl)
              · skip
                have hj : 2 * i + d < S 0 1 := by omega
                have f7 := hB.2.2.2.1 (2 * i + d) hj
                have fr := hR (S 7 (2 * i + d))
                have f9 := (hB.2.2.1 (2 * i + d)).1
                have ft := hJ.nine i d h_28
                have fo := bN_le (opn S (S 11 b0) h0 (2 * i + d))
                refine lv_aload_n hx hb dX3_secondsTo_31 rfl (lv_at hl 3 rfl) ?_
                refine lv_iload hx hb dX3_secondsTo_32 (lv_at hl 1 rfl) ?_
                refine lv_iload hx hb dX3_secondsTo_34 (lv_at hl 0 rfl) ?_
                refine rd_V (As := [.int (nI i), .int (nI d)]) (rest := []) ⟨hx, hb, hml, hown, hts⟩ (k_X3_to l D q k S Z i d hJ (by omega) h_28) (cwV 2 hts gX3_secondsTo_X3_to rfl rfl rfl (by decide +kernel) ⟨by decide, by decide⟩) hX hP (q0 := 0) rfl rfl rfl hl.1 rfl (Nat.le_of_ble_eq_true rfl) dX3_secondsTo_36 ⟨Nat.zero_le _, Nat.zero_le _⟩ ?_
                refine lv_iconst (v := nI 2) hx hb dX3_secondsTo_39 (by decide) ?_
                refine na_idiv2 hx hb (by omega) dX3_secondsTo_40 ?_
                refine lv_iload_n hx hb dX3_secondsTo_41 rfl (lv_at hl 6 rfl) ?_
                refine na_icmp_ne (tgt := 124) hx hb (by omega) (by omega) dX3_secondsTo_42 (by decide) (fun h_42 => ?_) (fun h_42 => ?_)
                · skip
                  refine lv_iinc (v := nI (d + 1)) (lv' := [(7, .int (nI (d + 1))), (6, .int (nI i)), (5, .int (rI y)), (0, .ref (q 0)), (1, .int (nI b0)), (2, .int (nI a0)), (3, .int (nI p0)), (4, .int (nI h0))]) hx hb dX3_secondsTo_124 hl (k := 0) rfl (nI_add _ 1) (by decide) rfl (fun ls hl => ?_)
                  refine lv_goto (tgt := 25) hx hb dX3_secondsTo_127 (by decide) ?_
                  exact ih25 (d + 1) y (by omega) (by omega) (by rw [show 2 * i + (d + 1) = 2 * i + d + 1 from rfl]; first | exact lpB2_n h5 (fun q => h_42 q.1) | exact lpB2_n h5 (by rw [sAt_none (fun q => q.2 h_59)]; omega) | exact lpB2_n h5 (by rw [sAt_none (fun q => bN_no h_73 q.1)]; omega) | exact lpB2_y h5 h_42 (by rw [sAt_some (bN_pos h_73) h_59]; omega) (by rw [sAt_some (bN_pos h_73) h_59, ft]) | exact lpB2_n h5 (by rw [sAt_some (bN_pos h_73) h_59]; omega)) ls hl
                · skip
                  refine lv_aload_n hx hb dX3_secondsTo_45 rfl (lv_at hl 3 rfl) ?_
                  refine va_get (D := D) (v := .ref (q 14)) hx hb hts hin_X3 hown hX.1 hP 0 rfl rfl 20 (by decide) hf_50 (fun _ h9 => h9) rfl dX3_secondsTo_46 ?_
                  refine lv_aload_n hx hb dX3_secondsTo_49 rfl (lv_at hl 3 rfl) ?_
                  refine lv_iload hx hb dX3_secondsTo_50 (lv_at hl 1 rfl) ?_
                  refine lv_iload hx hb dX3_secondsTo_52 (lv_at hl 0 rfl) ?_
                  refine rd_V (As := [.int (nI i), .int (nI d)]) (rest := [.ref (q 14)]) ⟨hx, hb, hml, hown, hts⟩ (k_X3_from l D q k S Z i d hJ (by omega) h_28) (cwV 2 hts gX3_secondsTo_X3_from rfl rfl rfl (by decide +kernel) ⟨by decide, by decide⟩) hX hP (q0 := 0) rfl rfl rfl hl.1 rfl (Nat.le_of_ble_eq_true rfl) dX3_secondsTo_54 ⟨Nat.zero_le _, Nat.zero_le _⟩ ?_
                  refine na_iald hx hb hX.1 hP 14 0 rfl rfl (by omega) (by decide) dX3_secondsTo_57 ?_
                  refine lv_iconst (v := pI 0) hx hb dX3_secondsTo_58 (by decide) ?_
                  refine nz_icmp_eq (tgt := 124) hx hb (by omega) dX3_secondsTo_59 (by decide) (fun h_59 => ?_) (fun h_59 => ?_)
                  · skip
                    refine lv_iinc (v := nI (d + 1)) (lv' := [(7, .int (nI (d + 1))), (6, .int (nI i)), (5, .int (rI y)), (0, .ref (q 0)), (1, .int (nI b0)), (2, .int (nI a0)), (3, .int (nI p0)), (4, .int (nI h0))]) hx hb dX3_secondsTo_124 hl (k := 0) rfl (nI_add _ 1) (by decide) rfl (fun ls hl => ?_)
                    refine lv_goto (tgt := 25) hx hb dX3_secondsTo_127 (by decide) ?_
                    exact ih25 (d + 1) y (by omega) (by omega) (by rw [show 2 * i + (d + 1) = 2 * i + d + 1 from rfl]; first | exact lpB2_n h5 (fun q => h_42 q.1) | exact lpB2_n h5 (by rw [sAt_none (fun q => q.2 h_59)]; omega) | exact lpB2_n h5 (by rw [sAt_none (fun q => bN_no h_73 q.1)]; omega) | exact lpB2_y h5 h_42 (by rw [sAt_some (bN_pos h_73) h_59]; omega) (by rw [sAt_some (bN_pos h_73) h_59, ft]) | exact lpB2_n h5 (by rw [sAt_some (bN_pos h_73) h_59]; omega)) ls hl
                  · skip
                    refine lv_aload_n hx hb dX3_secondsTo_62 rfl (lv_at hl 3 rfl) ?_
                    refine lv_iload_n hx hb dX3_secondsTo_63 rfl (lv_at hl 4 rfl) ?_
                    refine lv_iload hx hb dX3_secondsTo_64 (lv_at hl 1 rfl) ?_
                    refine lv_iload hx hb dX3_secondsTo_66 (lv_at hl 0 rfl) ?_
                    refine lv_iload hx hb dX3_secondsTo_68 (lv_at hl 7 rfl) ?_
                    refine rd_V (As := [.int (nI b0), .int (nI i), .int (nI d), .int (nI h0)]) (rest := []) ⟨hx, hb, hml, hown, hts⟩ (k_X3_mayGo l D q k S Z b0 i d h0 hB hJ hb0 hj h_28 hh) (cwV 4 hts gX3_secondsTo_X3_mayGo rfl rfl rfl (by decide +kernel) ⟨by decide, by decide⟩) hX hP (q0 := 0) rfl rfl rfl hl.1 rfl (Nat.le_of_ble_eq_true rfl) dX3_secondsTo_70 ⟨Nat.zero_le _, Nat.zero_le _⟩ ?_
                    refine na_if_ne (tgt := 79) hx hb (by omega) dX3_secondsTo_73 (by decide) (fun h_73 => ?_) (fun h_73 => ?_)
                    · skip
                      refine lv_aload_n hx hb dX3_secondsTo_79 rfl (lv_at hl 3 rfl) ?_
                      refine va_get (D := D) (v := .ref (q 14)) hx hb hts hin_X3 hown hX.1 hP 0 rfl rfl 20 (by decide) hf_50 (fun _ h9 => h9) rfl dX3_secondsTo_80 ?_
                      refine lv_aload_n hx hb dX3_secondsTo_83 rfl (lv_at hl 3 rfl) ?_
                      refine lv_iload hx hb dX3_secondsTo_84 (lv_at hl 1 rfl) ?_
                      refine lv_iload hx hb dX3_secondsTo_86 (lv_at hl 0 rfl) ?_
                      refine rd_V (As := [.int (nI i), .int (nI d)]) (rest := [.ref (q 14)]) ⟨hx, hb, hml, hown, hts⟩ (k_X3_from l D q k S Z i d hJ (by omega) h_28) (cwV 2 hts gX3_secondsTo_X3_from rfl rfl rfl (by decide +kernel) ⟨by decide, by decide⟩) hX hP (q0 := 0) rfl rfl rfl hl.1 rfl (Nat.le_of_ble_eq_true rfl) dX3_secondsTo_88 ⟨Nat.zero_le _, Nat.zero_le _⟩ ?_
                      refine na_iald hx hb hX.1 hP 14 0 rfl rfl (by omega) (by decide) dX3_secondsTo_91 ?_
                      refine na_as (y := nI (Z 1 (S 7 (2 * i + d)))) (rI_some h_59) ?_
                      refine lv_aload_n hx hb dX3_secondsTo_92 rfl (lv_at hl 3 rfl) ?_
                      refine va_get (D := D) (v := .ref (q 9)) hx hb hts hin_X3 hown hX.1 hP 0 rfl rfl 11 (by decide) hf_35 (fun _ h9 => h9) rfl dX3_secondsTo_93 ?_
                      refine lv_iload hx hb dX3_secondsTo_96 (lv_at hl 1 rfl) ?_
                      refine na_iald hx hb hX.1 hP 9 0 rfl rfl (by omega) (by decide) dX3_secondsTo_98 ?_
                      refine na_iadd hx hb dX3_secondsTo_99 ?_
                      refine lv_istore (lv' := [(8, .int (nI ((Z 1 (S 7 (2 * i + d))) + (S 9 (2 * i))))), (7, .int (nI d)), (6, .int (nI i)), (5, .int (rI y)), (0, .ref (q 0)), (1, .int (nI b0)), (2, .int (nI a0)), (3, .int (nI p0)), (4, .int (nI h0))]) hx hb dX3_secondsTo_100 hl (by decide) rfl (fun ls hl => ?_)
                      refine lv_iload hx hb dX3_secondsTo_102 (lv_at hl 3 rfl) ?_
                      refine lv_iconst (v := pI 0) hx hb dX3_secondsTo_104 (by decide) ?_
                      refine nz_icmp_eq (tgt := 115) hx hb (by omega) dX3_secondsTo_105 (by decide) (fun h_105 => ?_) (fun h_105 => ?_)
                      · skip
                        refine lv_iload hx hb dX3_secondsTo_115 (lv_at hl 0 rfl) ?_
                        refine lv_goto (tgt := 122) hx hb dX3_secondsTo_117 (by decide) ?_
                        refine na_as (y := rI ((Z 1 (S 7 (2 * i + d))) + (S 9 (2 * i)))) (rI_some (by omega)).symm ?_
                        refine lv_istore (lv' := [(5, .int (rI ((Z 1 (S 7 (2 * i + d))) + (S 9 (2 * i))))), (8, .int (nI ((Z 1 (S 7 (2 * i + d))) + (S 9 (2 * i))))), (7, .int (nI d)), (6, .int (nI i)), (0, .ref (q 0)), (1, .int (nI b0)), (2, .int (nI a0)), (3, .int (nI p0)), (4, .int (nI h0))]) hx hb dX3_secondsTo_122 hl (by decide) rfl (fun ls hl => ?_)
                        refine lv_iinc (v := nI (d + 1)) (lv' := [(7, .int (nI (d + 1))), (5, .int (rI ((Z 1 (S 7 (2 * i + d))) + (S 9 (2 * i))))), (8, .int (nI ((Z 1 (S 7 (2 * i + d))) + (S 9 (2 * i))))), (6, .int (nI i)), (0, .ref (q 0)), (1, .int (nI b0)), (2, .int (nI a0)), (3, .int (nI p0)), (4, .int (nI h0))]) hx hb dX3_secondsTo_124 hl (k := 2) rfl (nI_add _ 1) (by decide) rfl (fun ls hl => ?_)
                        refine lv_goto (tgt := 25) hx hb dX3_secondsTo_127 (by decide) ?_
                        exact ih25 (d + 1) (((Z 1 (S 7 (2 * i + d))) + (S 9 (2 * i)))) (by omega) (by omega) (by rw [show 2 * i + (d + 1) = 2 * i + d + 1 from rfl]; first | exact lpB2_n h5 (fun q => h_42 q.1) | exact lpB2_n h5 (by rw [sAt_none (fun q => q.2 h_59)]; omega) | exact lpB2_n h5 (by rw [sAt_none (fun q => bN_no h_73 q.1)]; omega) | exact lpB2_y h5 h_42 (by rw [sAt_some (bN_pos h_73) h_59]; omega) (by rw [sAt_some (bN_pos h_73) h_59, ft]) | exact lpB2_n h5 (by rw [sAt_some (bN_pos h_73) h_59]; omega)) ls (lv_sub hl [0, 3, 1, 4, 5, 6, 7, 8] rfl)
                      · skip
                        refine lv_iload hx hb dX3_secondsTo_108 (lv_at hl 0 rfl) ?_
                        refine lv_iload hx hb dX3_secondsTo_110 (lv_at hl 3 rfl) ?_
                        refine na_as (y := nI y) (rI_some h_105) ?_
                        refine na_icmp_ge (tgt := 120) hx hb (by omega) (by omega) dX3_secondsTo_112 (by decide) (fun h_112 => ?_) (fun h_112 => ?_)
                        · skip
                          refine lv_iload hx hb dX3_secondsTo_120 (lv_at hl 3 rfl) ?_
                          refine lv_istore (lv' := [(5, .int (rI y)), (8, .int (nI ((Z 1 (S 7 (2 * i + d))) + (S 9 (2 * i))))), (7, .int (nI d)), (6, .int (nI i)), (0, .ref (q 0)), (1, .int (nI b0)), (2, .int (nI a0)), (3, .int (nI p0)), (4, .int (nI h0))]) hx hb dX3_secondsTo_122 hl (by decide) rfl (fun ls hl => ?_)
                          refine lv_iinc (v := nI (d + 1)) (lv' := [(7, .int (nI (d + 1))), (5, .int (rI y)), (8, .int (nI ((Z 1 (S 7 (2 * i + d))) + (S 9 (2 * i))))), (6, .int (nI i)), (0, .ref (q 0)), (1, .int (nI b0)), (2, .int (nI a0)), (3, .int (nI p0)), (4, .int (nI h0))]) hx hb dX3_secondsTo_124 hl (k := 2) rfl (nI_add _ 1) (by decide) rfl (fun ls hl => ?_)
                          refine lv_goto (tgt := 25) hx hb dX3_secondsTo_127 (by decide) ?_
                          exact ih25 (d + 1) y (by omega) (by omega) (by rw [show 2 * i + (d + 1) = 2 * i + d + 1 from rfl]; first | exact lpB2_n h5 (fun q => h_42 q.1) | exact lpB2_n h5 (by rw [sAt_none (fun q => q.2 h_59)]; omega) | exact lpB2_n h5 (by rw [sAt_none (fun q => bN_no h_73 q.1)]; omega) | exact lpB2_y h5 h_42 (by rw [sAt_some (bN_pos h_73) h_59]; omega) (by rw [sAt_some (bN_pos h_73) h_59, ft]) | exact lpB2_n h5 (by rw [sAt_some (bN_pos h_73) h_59]; omega)) ls (lv_sub hl [0, 3, 1, 4, 5, 6, 7, 8] rfl)
                        · skip
                          refine lv_iload hx hb dX3_secondsTo_115 (lv_at hl 0 rfl) ?_
                          refine lv_goto (tgt := 122) hx hb dX3_secondsTo_117 (by decide) ?_
                          refine na_as (y := rI ((Z 1 (S 7 (2 * i + d))) + (S 9 (2 * i)))) (rI_some (by omega)).symm ?_
                          refine lv_istore (lv' := [(5, .int (rI ((Z 1 (S 7 (2 * i + d))) + (S 9 (2 * i))))), (8, .int (nI ((Z 1 (S 7 (2 * i + d))) + (S 9 (2 * i))))), (7, .int (nI d)), (6, .int (nI i)), (0, .ref (q 0)), (1, .int (nI b0)), (2, .int (nI a0)), (3, .int (nI p0)), (4, .int (nI h0))]) hx hb dX3_secondsTo_122 hl (by decide) rfl (fun ls hl => ?_)
                          refine lv_iinc (v := nI (d + 1)) (lv' := [(7, .int (nI (d + 1))), (5, .int (rI ((Z 1 (S 7 (2 * i + d))) + (S 9 (2 * i))))), (8, .int (nI ((Z 1 (S 7 (2 * i + d))) + (S 9 (2 * i))))), (6, .int (nI i)), (0, .ref (q 0)), (1, .int (nI b0)), (2, .int (nI a0)), (3, .int (nI p0)), (4, .int (nI h0))]) hx hb dX3_secondsTo_124 hl (k := 2) rfl (nI_add _ 1) (by decide) rfl (fun ls hl => ?_)
                          refine lv_goto (tgt := 25) hx hb dX3_secondsTo_127 (by decide) ?_
                          exact ih25 (d + 1) (((Z 1 (S 7 (2 * i + d))) + (S 9 (2 * i)))) (by omega) (by omega) (by rw [show 2 * i + (d + 1) = 2 * i + d + 1 from rfl]; first | exact lpB2_n h5 (fun q => h_42 q.1) | exact lpB2_n h5 (by rw [sAt_none (fun q => q.2 h_59)]; omega) | exact lpB2_n h5 (by rw [sAt_none (fun q => bN_no h_73 q.1)]; omega) | exact lpB2_y h5 h_42 (by rw [sAt_some (bN_pos h_73) h_59]; omega) (by rw [sAt_some (bN_pos h_73) h_59, ft]) | exact lpB2_n h5 (by rw [sAt_some (bN_pos h_73) h_59]; omega)) ls (lv_sub hl [0, 3, 1, 4, 5, 6, 7, 8] rfl)
                    · skip
                      refine lv_goto (tgt := 124) hx hb dX3_secondsTo_76 (by decide) ?_
                      refine lv_iinc (v := nI (d + 1)) (lv' := [(7, .int (nI (d + 1))), (6, .int (nI i)), (5, .int (rI y)), (0, .ref (q 0)), (1, .int (nI b0)), (2, .int (nI a0)), (3, .int (nI p0)), (4, .int (nI h0))]) hx hb dX3_secondsTo_124 hl (k := 0) rfl (nI_add _ 1) (by decide) rfl (fun ls hl => ?_)
                      refine lv_goto (tgt := 25) hx hb dX3_secondsTo_127 (by decide) ?_
                      exact ih25 (d + 1) y (by omega) (by omega) (by rw [show 2 * i + (d + 1) = 2 * i + d + 1 from rfl]; first | exact lpB2_n h5 (fun q => h_42 q.1) | exact lpB2_n h5 (by rw [sAt_none (fun q => q.2 h_59)]; omega) | exact lpB2_n h5 (by rw [sAt_none (fun q => bN_no h_73 q.1)]; omega) | exact lpB2_y h5 h_42 (by rw [sAt_some (bN_pos h_73) h_59]; omega) (by rw [sAt_some (bN_pos h_73) h_59, ft]) | exact lpB2_n h5 (by rw [sAt_some (bN_pos h_73) h_59]; omega)) ls hl
          exact L25 3 0 x (by omega) (by omega) h3 ls hl
    exact L13 (S 0 1 + 1) 0 1000000 (by omega) (by omega) rfl ls hl
  · skip
    refine lv_iconst (v := nI 0) hx hb dX3_secondsTo_5 (by decide) ?_
    exact W.iret (v := nI 0) hx hb hr (fun t ht hW => ⟨_, rfl, by rw [sTo, if_pos h_2.symm]; rfl, ht⟩) (fun _ h => by cases h) dX3_secondsTo_6

set_option maxHeartbeats 4000000 in
set_option maxRecDepth 100000 in
theorem k_X3_lastEnd (l : Launch) (D : va_G) (q : Nat → Nat) (k : Nat → ClassId) (S Z : Nat → Nat → Nat) (b0 : Nat) (p0 : Nat) (t0 : Nat) (h0 : Nat) (hB : Bd S) (hJ : Jn S) (hR : Rb (Z 1)) (hb0 : b0 < 6) (hp : p0 < 20) (ht : t0 ≤ 1000000) (hh : h0 < 24) : Met l yX3_lastEnd wsX3_lastEnd ({ frames := 2, cells := 0, slots := 0, locals := 48 } : Room) (va_Pc [.ref (q 0), .int (nI b0), .int (nI p0), .int (nI t0), .int (nI h0)] (rB D k (wM q k S Z))) (vp_Si (fun r => r = pI (atS S (lEn S (opn S (S 11 b0) h0) (Z 1) p0 t0 (S 0 1))))) 0 0 (fun _ => False) := by
  refine Met.ofW (cc := cX3_lastEnd) (maxL := 7) (ret := (some .int)) (by decide) rfl ?_
  intro p e s m args below meth c s₁ B hml hv
  obtain ⟨rfl, hP, hX⟩ := hv
  have hx := B.exec
  have hb := B.bytes
  have hr := B.returns
  have hts := atoms_spec (ws := wsX3_lastEnd) B.pre
  have hown : s.vm.findClass RX3 = some m.cls := findClass_of_methodNamed B.named
  have hlocks := B.notSynchronized
  have hf_35 := hts (.fieldLink RX3 35 "FloorGraphModel" "turning" "[I") (by decide +kernel)
  have hf_50 := hts (.fieldLink RX3 50 "FloorGraphModel" "reached" "[I") (by decide +kernel)
  have hf_73 := hts (.fieldLink RX3 73 "FloorGraphModel" "joins" "I") (by decide +kernel)
  have hin_X3 : ∀ w ∈ u_ws RX3 TX3 24, w ∈ wsX3_lastEnd := by decide +kernel
  have f0 := hB.1
  have fj := hJ.1
  have hl := lv_entry ([.ref (q 0), .int (nI b0), .int (nI p0), .int (nI t0), .int (nI h0)]) (n := 7) (Nat.le_of_ble_eq_true rfl)
  rw [lg_entry_eq]
  generalize (lg_sl ([.ref (q 0), .int (nI b0), .int (nI p0), .int (nI t0), .int (nI h0)]) ++ List.replicate (7 - (lg_sl ([.ref (q 0), .int (nI b0), .int (nI p0), .int (nI t0), .int (nI h0)])).length) Slot.unset).toArray = ls at hl ⊢
  have hl : lv_has ls 7 [(0, .ref (q 0)), (1, .int (nI b0)), (2, .int (nI p0)), (3, .int (nI t0)), (4, .int (nI h0))] := hl
  refine lv_iconst (v := nI 0) hx hb dX3_lastEnd_0 (by decide) ?_
  refine lv_istore (lv' := [(5, .int (nI 0)), (0, .ref (q 0)), (1, .int (nI b0)), (2, .int (nI p0)), (3, .int (nI t0)), (4, .int (nI h0))]) hx hb dX3_lastEnd_1 hl (by decide) rfl (fun ls hl => ?_)
  have L3 : ∀ (n3 : Nat) (i : Nat), (S 0 1 / 2 < i + n3) → (h1 : 2 * i ≤ S 0 1) → (h3 : lEn S (opn S (S 11 b0) h0) (Z 1) p0 t0 (2 * i) = 0) → ∀ (ls : Array Slot), lv_has ls 7 [(5, .int (nI i)), (0, .ref (q 0)), (1, .int (nI b0)), (2, .int (nI p0)), (3, .int (nI t0)), (4, .int (nI h0))] → W p l e (headSpec wsX3_lastEnd ({ frames := 2, cells := 0, slots := 0, locals := 48 } : Room)).room s m [.ref (q 0), .int (nI b0), .int (nI p0), .int (nI t0), .int (nI h0)].toArray below meth c s.heap [] 0 0 (MQ below (vp_Si (fun r => r = pI (atS S (lEn S (opn S (S 11 b0) h0) (Z 1) p0 t0 (S 0 1))))) [.ref (q 0), .int (nI b0), .int (nI p0), .int (nI t0), .int (nI h0)].toArray s 0 0 (fun _ => False)) (F0 m 3 ls []) := by
    intro n3
    induction n3 with
    | zero =>
      intro i hfuel3 h1 h3 ls hl
      exact absurd hfuel3 (by omega)
    | succ n3 ih3 =>
      intro i hfuel3 h1 h3 ls hl
      refine lv_iload hx hb dX3_lastEnd_3 (lv_at hl 0 rfl) ?_
      refine lv_aload_n hx hb dX3_lastEnd_5 rfl (lv_at hl 1 rfl) ?_
      refine va_get (D := D) (v := .int (nI ((S 0 1) / 2))) hx hb hts hin_X3 hown hX.1 hP 0 rfl rfl 8 (by decide) hf_73 (fun _ h9 => h9) rfl dX3_lastEnd_6 ?_
      refine na_icmp_ge (tgt := 112) hx hb (by omega) (by omega) dX3_lastEnd_9 (by decide) (fun h_9 => ?_) (fun h_9 => ?_)
      · skip
        refine lv_iconst (v := pI 0) hx hb dX3_lastEnd_112 (by decide) ?_
        exact W.iret (v := pI 0) hx hb hr (fun t ht hW => ⟨_, rfl, by rw [← show 2 * i = S 0 1 by omega, h3]; rfl, ht⟩) (fun _ h => by cases h) dX3_lastEnd_113
      · skip
        refine lv_iconst (v := nI 0) hx hb dX3_lastEnd_12 (by decide) ?_
        refine lv_istore (lv' := [(6, .int (nI 0)), (5, .int (nI i)), (0, .ref (q 0)), (1, .int (nI b0)), (2, .int (nI p0)), (3, .int (nI t0)), (4, .int (nI h0))]) hx hb dX3_lastEnd_13 hl (by decide) rfl (fun ls hl => ?_)
        have L15 : ∀ (n15 : Nat) (d : Nat), (2 < d + n15) → (h4 : d ≤ 2) → (h5 : lEn S (opn S (S 11 b0) h0) (Z 1) p0 t0 (2 * i + d) = 0) → ∀ (ls : Array Slot), lv_has ls 7 [(6, .int (nI d)), (5, .int (nI i)), (0, .ref (q 0)), (1, .int (nI b0)), (2, .int (nI p0)), (3, .int (nI t0)), (4, .int (nI h0))] → W p l e (headSpec wsX3_lastEnd ({ frames := 2, cells := 0, slots := 0, locals := 48 } : Room)).room s m [.ref (q 0), .int (nI b0), .int (nI p0), .int (nI t0), .int (nI h0)].toArray below meth c s.heap [] 0 0 (MQ below (vp_Si (fun r => r = pI (atS S (lEn S (opn S (S 11 b0) h0) (Z 1) p0 t0 (S 0 1))))) [.ref (q 0), .int (nI b0), .int (nI p0), .int (nI t0), .int (nI h0)].toArray s 0 0 (fun _ => False)) (F0 m 15 ls []) := by
          intro n15
          induction n15 with
          | zero =>
            intro d hfuel15 h4 h5 ls hl
            exact absurd hfuel15 (by omega)
          | succ n15 ih15 =>
            intro d hfuel15 h4 h5 ls hl
            refine lv_iload hx hb dX3_lastEnd_15 (lv_at hl 0 rfl) ?_
            refine lv_iconst (v := nI 2) hx hb dX3_lastEnd_17 (by decide) ?_
            refine na_icmp_ge (tgt := 106) hx hb (by omega) (by omega) dX3_lastEnd_18 (by decide) (fun h_18 => ?_) (fun h_18 => ?_)
            · skip
              refine lv_iinc (v := nI (i + 1)) (lv' := [(5, .int (nI (i + 1))), (6, .int (nI d)), (0, .ref (q 0)), (1, .int (nI b0)), (2, .int (nI p0)), (3, .int (nI t0)), (4, .int (nI h0))]) hx hb dX3_lastEnd_106 hl (k := 1) rfl (nI_add _ 1) (by decide) rfl (fun ls hl => ?_)
              refine lv_goto (tgt := 3) hx hb dX3_lastEnd_109 (by decide) ?_
              exact ih3 (i + 1) (by omega) (by omega) (by rw [show 2 * (i + 1) = 2 * i + d by omega]; exact h5) ls (lv_sub hl [0, 2, 3, 4, 5, 6] rfl)
            · skip
              have hj : 2 * i + d < S 0 1 := by omega
              have f7 := hB.2.2.2.1 (2 * i + d) hj
              have fr := hR (S 7 (2 * i + d))
              have f9 := (hB.2.2.1 (2 * i + d)).1
              have ft := hJ.nine i d h_18
              have fo := bN_le (opn S (S 11 b0) h0 (2 * i + d))
              refine lv_aload_n hx hb dX3_lastEnd_21 rfl (lv_at hl 2 rfl) ?_
              refine lv_iload hx hb dX3_lastEnd_22 (lv_at hl 1 rfl) ?_
              refine lv_iload hx hb dX3_lastEnd_24 (lv_at hl 0 rfl) ?_
              refine rd_V (As := [.int (nI i), .int (nI d)]) (rest := []) ⟨hx, hb, hml, hown, hts⟩ (k_X3_to l D q k S Z i d hJ (by omega) h_18) (cwV 2 hts gX3_lastEnd_X3_to rfl rfl rfl (by decide +kernel) ⟨by decide, by decide⟩) hX hP (q0 := 0) rfl rfl rfl hl.1 rfl (Nat.le_of_ble_eq_true rfl) dX3_lastEnd_26 ⟨Nat.zero_le _, Nat.zero_le _⟩ ?_
              refine lv_iconst (v := nI 2) hx hb dX3_lastEnd_29 (by decide) ?_
              refine na_idiv2 hx hb (by omega) dX3_lastEnd_30 ?_
              refine lv_iload_n hx hb dX3_lastEnd_31 rfl (lv_at hl 4 rfl) ?_
              refine na_icmp_ne (tgt := 100) hx hb (by omega) (by omega) dX3_lastEnd_32 (by decide) (fun h_32 => ?_) (fun h_32 => ?_)
              · skip
                refine lv_iinc (v := nI (d + 1)) (lv' := [(6, .int (nI (d + 1))), (5, .int (nI i)), (0, .ref (q 0)), (1, .int (nI b0)), (2, .int (nI p0)), (3, .int (nI t0)), (4, .int (nI h0))]) hx hb dX3_lastEnd_100 hl (k := 0) rfl (nI_add _ 1) (by decide) rfl (fun ls hl => ?_)
                refine lv_goto (tgt := 15) hx hb dX3_lastEnd_103 (by decide) ?_
                exact ih15 (d + 1) (by omega) (by omega) (by rw [show 2 * i + (d + 1) = 2 * i + d + 1 from rfl]; exact ff_s h5 (by simp only [decide_eq_true_eq]; first | exact fun q => h_32 q.1 | exact fun q => q.2.2 (sAt_none (fun z => z.2 h_49)) | exact fun q => q.2.2 (sAt_none (fun z => bN_no h_63 z.1)) | exact fun q => by rw [sAt_some (bN_pos h_63) h_49] at q; omega)) ls hl
              · skip
                refine lv_aload_n hx hb dX3_lastEnd_35 rfl (lv_at hl 2 rfl) ?_
                refine va_get (D := D) (v := .ref (q 14)) hx hb hts hin_X3 hown hX.1 hP 0 rfl rfl 20 (by decide) hf_50 (fun _ h9 => h9) rfl dX3_lastEnd_36 ?_
                refine lv_aload_n hx hb dX3_lastEnd_39 rfl (lv_at hl 2 rfl) ?_
                refine lv_iload hx hb dX3_lastEnd_40 (lv_at hl 1 rfl) ?_
                refine lv_iload hx hb dX3_lastEnd_42 (lv_at hl 0 rfl) ?_
                refine rd_V (As := [.int (nI i), .int (nI d)]) (rest := [.ref (q 14)]) ⟨hx, hb, hml, hown, hts⟩ (k_X3_from l D q k S Z i d hJ (by omega) h_18) (cwV 2 hts gX3_lastEnd_X3_from rfl rfl rfl (by decide +kernel) ⟨by decide, by decide⟩) hX hP (q0 := 0) rfl rfl rfl hl.1 rfl (Nat.le_of_ble_eq_true rfl) dX3_lastEnd_44 ⟨Nat.zero_le _, Nat.zero_le _⟩ ?_
                refine na_iald hx hb hX.1 hP 14 0 rfl rfl (by omega) (by decide) dX3_lastEnd_47 ?_
                refine lv_iconst (v := pI 0) hx hb dX3_lastEnd_48 (by decide) ?_
                refine nz_icmp_eq (tgt := 100) hx hb (by omega) dX3_lastEnd_49 (by decide) (fun h_49 => ?_) (fun h_49 => ?_)
                · skip
                  refine lv_iinc (v := nI (d + 1)) (lv' := [(6, .int (nI (d + 1))), (5, .int (nI i)), (0, .ref (q 0)), (1, .int (nI b0)), (2, .int (nI p0)), (3, .int (nI t0)), (4, .int (nI h0))]) hx hb dX3_lastEnd_100 hl (k := 0) rfl (nI_add _ 1) (by decide) rfl (fun ls hl => ?_)
                  refine lv_goto (tgt := 15) hx hb dX3_lastEnd_103 (by decide) ?_
                  exact ih15 (d + 1) (by omega) (by omega) (by rw [show 2 * i + (d + 1) = 2 * i + d + 1 from rfl]; exact ff_s h5 (by simp only [decide_eq_true_eq]; first | exact fun q => h_32 q.1 | exact fun q => q.2.2 (sAt_none (fun z => z.2 h_49)) | exact fun q => q.2.2 (sAt_none (fun z => bN_no h_63 z.1)) | exact fun q => by rw [sAt_some (bN_pos h_63) h_49] at q; omega)) ls hl
                · skip
                  refine lv_aload_n hx hb dX3_lastEnd_52 rfl (lv_at hl 2 rfl) ?_
                  refine lv_iload_n hx hb dX3_lastEnd_53 rfl (lv_at hl 3 rfl) ?_
                  refine lv_iload hx hb dX3_lastEnd_54 (lv_at hl 1 rfl) ?_
                  refine lv_iload hx hb dX3_lastEnd_56 (lv_at hl 0 rfl) ?_
                  refine lv_iload hx hb dX3_lastEnd_58 (lv_at hl 6 rfl) ?_
                  refine rd_V (As := [.int (nI b0), .int (nI i), .int (nI d), .int (nI h0)]) (rest := []) ⟨hx, hb, hml, hown, hts⟩ (k_X3_mayGo l D q k S Z b0 i d h0 hB hJ hb0 hj h_18 hh) (cwV 4 hts gX3_lastEnd_X3_mayGo rfl rfl rfl (by decide +kernel) ⟨by decide, by decide⟩) hX hP (q0 := 0) rfl rfl rfl hl.1 rfl (Nat.le_of_ble_eq_true rfl) dX3_lastEnd_60 ⟨Nat.zero_le _, Nat.zero_le _⟩ ?_
                  refine na_if_eq (tgt := 100) hx hb (by omega) dX3_lastEnd_63 (by decide) (fun h_63 => ?_) (fun h_63 => ?_)
                  · skip
                    refine lv_iinc (v := nI (d + 1)) (lv' := [(6, .int (nI (d + 1))), (5, .int (nI i)), (0, .ref (q 0)), (1, .int (nI b0)), (2, .int (nI p0)), (3, .int (nI t0)), (4, .int (nI h0))]) hx hb dX3_lastEnd_100 hl (k := 0) rfl (nI_add _ 1) (by decide) rfl (fun ls hl => ?_)
                    refine lv_goto (tgt := 15) hx hb dX3_lastEnd_103 (by decide) ?_
                    exact ih15 (d + 1) (by omega) (by omega) (by rw [show 2 * i + (d + 1) = 2 * i + d + 1 from rfl]; exact ff_s h5 (by simp only [decide_eq_true_eq]; first | exact fun q => h_32 q.1 | exact fun q => q.2.2 (sAt_none (fun z => z.2 h_49)) | exact fun q => q.2.2 (sAt_none (fun z => bN_no h_63 z.1)) | exact fun q => by rw [sAt_some (bN_pos h_63) h_49] at q; omega)) ls hl
                  · skip
                    refine lv_aload_n hx hb dX3_lastEnd_66 rfl (lv_at hl 2 rfl) ?_
                    refine va_get (D := D) (v := .ref (q 14)) hx hb hts hin_X3 hown hX.1 hP 0 rfl rfl 20 (by decide) hf_50 (fun _ h9 => h9) rfl dX3_lastEnd_67 ?_
                    refine lv_aload_n hx hb dX3_lastEnd_70 rfl (lv_at hl 2 rfl) ?_
                    refine lv_iload hx hb dX3_lastEnd_71 (lv_at hl 1 rfl) ?_
                    refine lv_iload hx hb dX3_lastEnd_73 (lv_at hl 0 rfl) ?_
                    refine rd_V (As := [.int (nI i), .int (nI d)]) (rest := [.ref (q 14)]) ⟨hx, hb, hml, hown, hts⟩ (k_X3_from l D q k S Z i d hJ (by omega) h_18) (cwV 2 hts gX3_lastEnd_X3_from rfl rfl rfl (by decide +kernel) ⟨by decide, by decide⟩) hX hP (q0 := 0) rfl rfl rfl hl.1 rfl (Nat.le_of_ble_eq_true rfl) dX3_lastEnd_75 ⟨Nat.zero_le _, Nat.zero_le _⟩ ?_
                    refine na_iald hx hb hX.1 hP 14 0 rfl rfl (by omega) (by decide) dX3_lastEnd_78 ?_
                    refine na_as (y := nI (Z 1 (S 7 (2 * i + d)))) (rI_some h_49) ?_
                    refine lv_aload_n hx hb dX3_lastEnd_79 rfl (lv_at hl 2 rfl) ?_
                    refine va_get (D := D) (v := .ref (q 9)) hx hb hts hin_X3 hown hX.1 hP 0 rfl rfl 11 (by decide) hf_35 (fun _ h9 => h9) rfl dX3_lastEnd_80 ?_
                    refine lv_iload hx hb dX3_lastEnd_83 (lv_at hl 1 rfl) ?_
                    refine na_iald hx hb hX.1 hP 9 0 rfl rfl (by omega) (by decide) dX3_lastEnd_85 ?_
                    refine na_iadd hx hb dX3_lastEnd_86 ?_
                    refine lv_iload_n hx hb dX3_lastEnd_87 rfl (lv_at hl 5 rfl) ?_
                    refine na_icmp_ne (tgt := 100) hx hb (by omega) (by omega) dX3_lastEnd_88 (by decide) (fun h_88 => ?_) (fun h_88 => ?_)
                    · skip
                      refine lv_iinc (v := nI (d + 1)) (lv' := [(6, .int (nI (d + 1))), (5, .int (nI i)), (0, .ref (q 0)), (1, .int (nI b0)), (2, .int (nI p0)), (3, .int (nI t0)), (4, .int (nI h0))]) hx hb dX3_lastEnd_100 hl (k := 0) rfl (nI_add _ 1) (by decide) rfl (fun ls hl => ?_)
                      refine lv_goto (tgt := 15) hx hb dX3_lastEnd_103 (by decide) ?_
                      exact ih15 (d + 1) (by omega) (by omega) (by rw [show 2 * i + (d + 1) = 2 * i + d + 1 from rfl]; exact ff_s h5 (by simp only [decide_eq_true_eq]; first | exact fun q => h_32 q.1 | exact fun q => q.2.2 (sAt_none (fun z => z.2 h_49)) | exact fun q => q.2.2 (sAt_none (fun z => bN_no h_63 z.1)) | exact fun q => by rw [sAt_some (bN_pos h_63) h_49] at q; omega)) ls hl
                    · skip
                      refine lv_aload_n hx hb dX3_lastEnd_91 rfl (lv_at hl 2 rfl) ?_
                      refine lv_iload hx hb dX3_lastEnd_92 (lv_at hl 1 rfl) ?_
                      refine lv_iload hx hb dX3_lastEnd_94 (lv_at hl 0 rfl) ?_
                      refine rd_V (As := [.int (nI i), .int (nI d)]) (rest := []) ⟨hx, hb, hml, hown, hts⟩ (k_X3_from l D q k S Z i d hJ (by omega) h_18) (cwV 2 hts gX3_lastEnd_X3_from rfl rfl rfl (by decide +kernel) ⟨by decide, by decide⟩) hX hP (q0 := 0) rfl rfl rfl hl.1 rfl (Nat.le_of_ble_eq_true rfl) dX3_lastEnd_96 ⟨Nat.zero_le _, Nat.zero_le _⟩ ?_
                      exact W.iret (v := nI (S 7 (2 * i + d))) hx hb hr (fun t ht hW => ⟨_, rfl, by rw [lEn, ff_y h5 (by rw [decide_eq_true_eq, sAt_some (bN_pos h_63) h_49]; omega) _ hj, atS_y]; exact pI_s _, ht⟩) (fun _ h => by cases h) dX3_lastEnd_99
        exact L15 3 0 (by omega) (by omega) h3 ls hl
  exact L3 (S 0 1 + 1) 0 (by omega) (by omega) rfl ls hl

set_option maxHeartbeats 4000000 in
set_option maxRecDepth 100000 in
theorem k_X3_before (l : Launch) (D : va_G) (q : Nat → Nat) (k : Nat → ClassId) (S Z : Nat → Nat → Nat) (b0 : Nat) (e0 : Nat) (h0 : Nat) (hB : Bd S) (hJ : Jn S) (hR : Rb (Z 1)) (hb0 : b0 < 6) (he : e0 < 40) (hh : h0 < 24) : Met l yX3_before wsX3_before ({ frames := 3, cells := 0, slots := 0, locals := 72 } : Room) (va_Pc [.ref (q 0), .int (nI b0), .int (nI e0), .int (nI h0)] (rB D k (wM q k S Z))) (vp_Si (fun r => r = pI (atS S (bEn S (opn S (S 11 b0) h0) (Z 1) e0 (S 0 1))))) 0 0 (fun _ => False) := by
  refine Met.ofW (cc := cX3_before) (maxL := 6) (ret := (some .int)) (by decide) rfl ?_
  intro p e s m args below meth c s₁ B hml hv
  obtain ⟨rfl, hP, hX⟩ := hv
  have hx := B.exec
  have hb := B.bytes
  have hr := B.returns
  have hts := atoms_spec (ws := wsX3_before) B.pre
  have hown : s.vm.findClass RX3 = some m.cls := findClass_of_methodNamed B.named
  have hlocks := B.notSynchronized
  have hf_50 := hts (.fieldLink RX3 50 "FloorGraphModel" "reached" "[I") (by decide +kernel)
  have hf_73 := hts (.fieldLink RX3 73 "FloorGraphModel" "joins" "I") (by decide +kernel)
  have hin_X3 : ∀ w ∈ u_ws RX3 TX3 24, w ∈ wsX3_before := by decide +kernel
  have f0 := hB.1
  have fj := hJ.1
  have fr := hR e0
  have ff0 : fl e0 < 2 * 20 := fl_lt (by omega)
  have hl := lv_entry ([.ref (q 0), .int (nI b0), .int (nI e0), .int (nI h0)]) (n := 6) (Nat.le_of_ble_eq_true rfl)
  rw [lg_entry_eq]
  generalize (lg_sl ([.ref (q 0), .int (nI b0), .int (nI e0), .int (nI h0)]) ++ List.replicate (6 - (lg_sl ([.ref (q 0), .int (nI b0), .int (nI e0), .int (nI h0)])).length) Slot.unset).toArray = ls at hl ⊢
  have hl : lv_has ls 6 [(0, .ref (q 0)), (1, .int (nI b0)), (2, .int (nI e0)), (3, .int (nI h0))] := hl
  refine lv_iconst (v := nI 0) hx hb dX3_before_0 (by decide) ?_
  refine lv_istore (lv' := [(4, .int (nI 0)), (0, .ref (q 0)), (1, .int (nI b0)), (2, .int (nI e0)), (3, .int (nI h0))]) hx hb dX3_before_1 hl (by decide) rfl (fun ls hl => ?_)
  have L3 : ∀ (n3 : Nat) (i : Nat), (S 0 1 / 2 < i + n3) → (h1 : 2 * i ≤ S 0 1) → (h3 : bEn S (opn S (S 11 b0) h0) (Z 1) e0 (2 * i) = 0) → ∀ (ls : Array Slot), lv_has ls 6 [(4, .int (nI i)), (0, .ref (q 0)), (1, .int (nI b0)), (2, .int (nI e0)), (3, .int (nI h0))] → W p l e (headSpec wsX3_before ({ frames := 3, cells := 0, slots := 0, locals := 72 } : Room)).room s m [.ref (q 0), .int (nI b0), .int (nI e0), .int (nI h0)].toArray below meth c s.heap [] 0 0 (MQ below (vp_Si (fun r => r = pI (atS S (bEn S (opn S (S 11 b0) h0) (Z 1) e0 (S 0 1))))) [.ref (q 0), .int (nI b0), .int (nI e0), .int (nI h0)].toArray s 0 0 (fun _ => False)) (F0 m 3 ls []) := by
    intro n3
    induction n3 with
    | zero =>
      intro i hfuel3 h1 h3 ls hl
      exact absurd hfuel3 (by omega)
    | succ n3 ih3 =>
      intro i hfuel3 h1 h3 ls hl
      refine lv_iload hx hb dX3_before_3 (lv_at hl 0 rfl) ?_
      refine lv_aload_n hx hb dX3_before_5 rfl (lv_at hl 1 rfl) ?_
      refine va_get (D := D) (v := .int (nI ((S 0 1) / 2))) hx hb hts hin_X3 hown hX.1 hP 0 rfl rfl 8 (by decide) hf_73 (fun _ h9 => h9) rfl dX3_before_6 ?_
      refine na_icmp_ge (tgt := 75) hx hb (by omega) (by omega) dX3_before_9 (by decide) (fun h_9 => ?_) (fun h_9 => ?_)
      · skip
        refine lv_iconst (v := pI 0) hx hb dX3_before_75 (by decide) ?_
        exact W.iret (v := pI 0) hx hb hr (fun t ht hW => ⟨_, rfl, by rw [← show 2 * i = S 0 1 by omega, h3]; rfl, ht⟩) (fun _ h => by cases h) dX3_before_76
      · skip
        refine lv_iconst (v := nI 0) hx hb dX3_before_12 (by decide) ?_
        refine lv_istore (lv' := [(5, .int (nI 0)), (4, .int (nI i)), (0, .ref (q 0)), (1, .int (nI b0)), (2, .int (nI e0)), (3, .int (nI h0))]) hx hb dX3_before_13 hl (by decide) rfl (fun ls hl => ?_)
        have L15 : ∀ (n15 : Nat) (d : Nat), (2 < d + n15) → (h4 : d ≤ 2) → (h5 : bEn S (opn S (S 11 b0) h0) (Z 1) e0 (2 * i + d) = 0) → ∀ (ls : Array Slot), lv_has ls 6 [(5, .int (nI d)), (4, .int (nI i)), (0, .ref (q 0)), (1, .int (nI b0)), (2, .int (nI e0)), (3, .int (nI h0))] → W p l e (headSpec wsX3_before ({ frames := 3, cells := 0, slots := 0, locals := 72 } : Room)).room s m [.ref (q 0), .int (nI b0), .int (nI e0), .int (nI h0)].toArray below meth c s.heap [] 0 0 (MQ below (vp_Si (fun r => r = pI (atS S (bEn S (opn S (S 11 b0) h0) (Z 1) e0 (S 0 1))))) [.ref (q 0), .int (nI b0), .int (nI e0), .int (nI h0)].toArray s 0 0 (fun _ => False)) (F0 m 15 ls []) := by
          intro n15
          induction n15 with
          | zero =>
            intro d hfuel15 h4 h5 ls hl
            exact absurd hfuel15 (by omega)
          | succ n15 ih15 =>
            intro d hfuel15 h4 h5 ls hl
            refine lv_iload hx hb dX3_before_15 (lv_at hl 0 rfl) ?_
            refine lv_iconst (v := nI 2) hx hb dX3_before_17 (by decide) ?_
            refine na_icmp_ge (tgt := 69) hx hb (by omega) (by omega) dX3_before_18 (by decide) (fun h_18 => ?_) (fun h_18 => ?_)
            · skip
              refine lv_iinc (v := nI (i + 1)) (lv' := [(4, .int (nI (i + 1))), (5, .int (nI d)), (0, .ref (q 0)), (1, .int (nI b0)), (2, .int (nI e0)), (3, .int (nI h0))]) hx hb dX3_before_69 hl (k := 1) rfl (nI_add _ 1) (by decide) rfl (fun ls hl => ?_)
              refine lv_goto (tgt := 3) hx hb dX3_before_72 (by decide) ?_
              exact ih3 (i + 1) (by omega) (by omega) (by rw [show 2 * (i + 1) = 2 * i + d by omega]; exact h5) ls (lv_sub hl [0, 2, 3, 4, 5] rfl)
            · skip
              have hj : 2 * i + d < S 0 1 := by omega
              have f7 := hB.2.2.2.1 (2 * i + d) hj
              have fs := sBh_le (fun p => (hB.2.2.1 p).1) (fun i => (hB.2.1 i).2.1) hR.le (o := opn S (S 11 b0) h0) (2 * i + d)
              refine lv_aload_n hx hb dX3_before_21 rfl (lv_at hl 2 rfl) ?_
              refine lv_iload hx hb dX3_before_22 (lv_at hl 1 rfl) ?_
              refine lv_iload hx hb dX3_before_24 (lv_at hl 0 rfl) ?_
              refine rd_V (As := [.int (nI i), .int (nI d)]) (rest := []) ⟨hx, hb, hml, hown, hts⟩ (k_X3_to l D q k S Z i d hJ (by omega) h_18) (cwV 2 hts gX3_before_X3_to rfl rfl rfl (by decide +kernel) ⟨by decide, by decide⟩) hX hP (q0 := 0) rfl rfl rfl hl.1 rfl (Nat.le_of_ble_eq_true rfl) dX3_before_26 ⟨Nat.zero_le _, Nat.zero_le _⟩ ?_
              refine lv_iload_n hx hb dX3_before_29 rfl (lv_at hl 4 rfl) ?_
              refine lv_iconst (v := nI 1) hx hb dX3_before_30 (by decide) ?_
              refine na_ixor1 hx hb (by omega) dX3_before_31 ?_
              refine na_icmp_ne (tgt := 63) hx hb (by omega) (by omega) dX3_before_32 (by decide) (fun h_32 => ?_) (fun h_32 => ?_)
              · skip
                refine lv_iinc (v := nI (d + 1)) (lv' := [(5, .int (nI (d + 1))), (4, .int (nI i)), (0, .ref (q 0)), (1, .int (nI b0)), (2, .int (nI e0)), (3, .int (nI h0))]) hx hb dX3_before_63 hl (k := 0) rfl (nI_add _ 1) (by decide) rfl (fun ls hl => ?_)
                refine lv_goto (tgt := 15) hx hb dX3_before_66 (by decide) ?_
                exact ih15 (d + 1) (by omega) (by omega) (by rw [show 2 * i + (d + 1) = 2 * i + d + 1 from rfl]; exact ff_s h5 (by simp only [decide_eq_true_eq]; omega)) ls hl
              · skip
                refine lv_aload_n hx hb dX3_before_35 rfl (lv_at hl 2 rfl) ?_
                refine lv_iload_n hx hb dX3_before_36 rfl (lv_at hl 3 rfl) ?_
                refine lv_iload hx hb dX3_before_37 (lv_at hl 1 rfl) ?_
                refine lv_iload hx hb dX3_before_39 (lv_at hl 0 rfl) ?_
                refine lv_iload_n hx hb dX3_before_41 rfl (lv_at hl 5 rfl) ?_
                refine rd_V (As := [.int (nI b0), .int (nI i), .int (nI d), .int (nI h0)]) (rest := []) ⟨hx, hb, hml, hown, hts⟩ (k_X3_through l D q k S Z b0 i d h0 hB hJ hR hb0 hj h_18 hh) (cwV 4 hts gX3_before_X3_through rfl rfl rfl (by decide +kernel) ⟨by decide, by decide⟩) hX hP (q0 := 0) rfl rfl rfl hl.1 rfl (Nat.le_of_ble_eq_true rfl) dX3_before_42 ⟨Nat.zero_le _, Nat.zero_le _⟩ ?_
                refine lv_aload_n hx hb dX3_before_45 rfl (lv_at hl 2 rfl) ?_
                refine va_get (D := D) (v := .ref (q 14)) hx hb hts hin_X3 hown hX.1 hP 0 rfl rfl 20 (by decide) hf_50 (fun _ h9 => h9) rfl dX3_before_46 ?_
                refine lv_iload_n hx hb dX3_before_49 rfl (lv_at hl 4 rfl) ?_
                refine na_iald hx hb hX.1 hP 14 0 rfl rfl (by omega) (by decide) dX3_before_50 ?_
                refine nzz_icmp_ne (tgt := 63) hx hb (by omega) (by omega) dX3_before_51 (by decide) (fun h_51 => ?_) (fun h_51 => ?_)
                · skip
                  refine lv_iinc (v := nI (d + 1)) (lv' := [(5, .int (nI (d + 1))), (4, .int (nI i)), (0, .ref (q 0)), (1, .int (nI b0)), (2, .int (nI e0)), (3, .int (nI h0))]) hx hb dX3_before_63 hl (k := 0) rfl (nI_add _ 1) (by decide) rfl (fun ls hl => ?_)
                  refine lv_goto (tgt := 15) hx hb dX3_before_66 (by decide) ?_
                  exact ih15 (d + 1) (by omega) (by omega) (by rw [show 2 * i + (d + 1) = 2 * i + d + 1 from rfl]; exact ff_s h5 (by simp only [decide_eq_true_eq]; omega)) ls hl
                · skip
                  refine lv_aload_n hx hb dX3_before_54 rfl (lv_at hl 2 rfl) ?_
                  refine lv_iload hx hb dX3_before_55 (lv_at hl 1 rfl) ?_
                  refine lv_iload hx hb dX3_before_57 (lv_at hl 0 rfl) ?_
                  refine rd_V (As := [.int (nI i), .int (nI d)]) (rest := []) ⟨hx, hb, hml, hown, hts⟩ (k_X3_from l D q k S Z i d hJ (by omega) h_18) (cwV 2 hts gX3_before_X3_from rfl rfl rfl (by decide +kernel) ⟨by decide, by decide⟩) hX hP (q0 := 0) rfl rfl rfl hl.1 rfl (Nat.le_of_ble_eq_true rfl) dX3_before_59 ⟨Nat.zero_le _, Nat.zero_le _⟩ ?_
                  exact W.iret (v := nI (S 7 (2 * i + d))) hx hb hr (fun t ht hW => ⟨_, rfl, by rw [bEn, ff_y h5 (by rw [decide_eq_true_eq]; omega) _ hj, atS_y]; exact pI_s _, ht⟩) (fun _ h => by cases h) dX3_before_62
        exact L15 3 0 (by omega) (by omega) h3 ls hl
  exact L3 (S 0 1 + 1) 0 (by omega) (by omega) rfl ls hl
