set_option maxHeartbeats 4000000 in
set_option maxRecDepth 100000 in
theorem k_X3_piece (l : Launch) (D : va_G) (q : Nat → Nat) (k : Nat → ClassId) (S Z : Nat → Nat → Nat) (sz : Nat) (x0 : Int32) (x1 : Int32) (b : Bool) (hB : Bd S) : Met l yX3_piece wsX3_piece ({ frames := 1, cells := 0, slots := 0, locals := 22 } : Room) (va_Pc [.ref (q 0), .int x0, .int x1, .int (nI (bN b))] (wB D k (wM q k S Z) sz)) (va_Qi (fun (r : Int32) (u : (Nat → Nat → Nat) × (Nat → Nat → Nat)) => (cdP S x0 x1 = 0 → r = nI (S 0 0)) ∧ u.1 = nS (cdP S x0 x1) S (addP S (iN x0) (iN x1) (bN b)) ∧ u.2 = up2 Z 0 0 (cdP S x0 x1)) (fun u t => wE D (va_A (wM q k S Z) sz) (wM q k u.1 u.2) t) (va_A (wM q k S Z) sz)) 0 0 (va_A (wM q k S Z) sz) := by
  refine Met.ofW (cc := cX3_piece) (maxL := 4) (ret := (some .int)) (by decide) rfl ?_
  intro p e s m args below meth c s₁ B hml hv
  obtain ⟨rfl, hsz, hP, hX, hD0⟩ := hv
  have hx := B.exec
  have hb := B.bytes
  have hr := B.returns
  have hts := atoms_spec (ws := wsX3_piece) B.pre
  have hown : s.vm.findClass RX3 = some m.cls := findClass_of_methodNamed B.named
  have hlocks := B.notSynchronized
  subst hsz
  have hD := hD0.self (sz := s.heap.size)
  generalize hAe : va_A (wM q k S Z) s.heap.size = A at hD ⊢
  have hA : ∀ q : Nat, s.heap.size ≤ q → A q := fun q h => by rw [← hAe]; exact Or.inr h
  have hS : va_S A s.heap s.heap [] := va_S.rf
  have hP : va_P D vwCl (wM q k S Z) s.heap := hP
  have hf_7 := hts (.fieldLink RX3 7 "FloorGraphModel" "level" "[I") (by decide +kernel)
  have hf_13 := hts (.fieldLink RX3 13 "FloorGraphModel" "length" "[I") (by decide +kernel)
  have hf_16 := hts (.fieldLink RX3 16 "FloorGraphModel" "wide" "[I") (by decide +kernel)
  have hf_19 := hts (.fieldLink RX3 19 "FloorGraphModel" "both" "[Z") (by decide +kernel)
  have hf_59 := hts (.fieldLink RX3 59 "FloorGraphModel" "code" "I") (by decide +kernel)
  have hf_63 := hts (.fieldLink RX3 63 "FloorGraphModel" "pieces" "I") (by decide +kernel)
  have hf_70 := hts (.fieldLink RX3 70 "FloorGraphModel" "changes" "I") (by decide +kernel)
  have hin_X3 : ∀ w ∈ u_ws RX3 TX3 24, w ∈ wsX3_piece := by decide +kernel
  have f0 := hB.1
  have hl := lv_entry ([.ref (q 0), .int x0, .int x1, .int (nI (bN b))]) (n := 4) (Nat.le_of_ble_eq_true rfl)
  rw [lg_entry_eq]
  generalize (lg_sl ([.ref (q 0), .int x0, .int x1, .int (nI (bN b))]) ++ List.replicate (4 - (lg_sl ([.ref (q 0), .int x0, .int x1, .int (nI (bN b))])).length) Slot.unset).toArray = ls at hl ⊢
  have hl : lv_has ls 4 [(0, .ref (q 0)), (1, .int x0), (2, .int x1), (3, .int (nI (bN b)))] := hl
  refine lv_aload_n hx hb dX3_piece_0 rfl (lv_at hl 0 rfl) ?_
  refine lv_iload_n hx hb dX3_piece_1 rfl (lv_at hl 1 rfl) ?_
  refine lv_iconst (v := nI 0) hx hb dX3_piece_2 (by decide) ?_
  refine lv_bipush (v := nI 9) hx hb dX3_piece_3 (by decide) ?_
  refine rd_S (As := [.int x0, .int (nI 0), .int (nI 9)]) (rest := [.ref (q 0)]) ⟨hx, hb, hml, hown, hts⟩ (k_X3_in l x0 (nI 0) (nI 9) ) (va_cwS 3 hts gX3_piece_X3_in rfl rfl rfl (by decide +kernel) ⟨by decide, by decide⟩) rfl hl.1 rfl (Nat.le_of_ble_eq_true rfl) dX3_piece_5 ⟨Nat.zero_le _, Nat.zero_le _⟩ ?_
  refine na_if_eq (tgt := 22) hx hb (bN_lt _) dX3_piece_8 (by decide) (fun h_8 => ?_) (fun h_8 => ?_)
  · skip
    refine lv_iconst (v := nI 1) hx hb dX3_piece_22 (by decide) ?_
    refine lv_goto (tgt := 40) hx hb dX3_piece_23 (by decide) ?_
    refine va_put (D := D) (v := .int (nI 1)) (ty := .int) hx hb hts hin_X3 tyX3 tyX3_ok nmX3 hown hX.1 hP hD hS 0 rfl rfl 0 (by decide) hf_59 (fun _ h9 => h9) rfl (by decide +kernel) rfl rfl (Nat.le_of_ble_eq_true rfl) dX3_piece_40 (fun H locs hP hD hS => ?_)
    have hP : va_P D vwCl (wM q k S (up2 Z 0 0 1)) H := sP_M0_0 hP
    have hD : va_D A (wM q k S (up2 Z 0 0 1)) := sD_M0_0 hD
    refine lv_aload_n hx hb dX3_piece_43 rfl (lv_at hl 0 rfl) ?_
    refine va_get (D := D) (v := .int (nI 1)) hx hb hts hin_X3 hown hX.1 hP 0 rfl rfl 0 (by decide) hf_59 (fun _ h9 => h9) rfl dX3_piece_44 ?_
    refine na_if_le (tgt := 52) hx hb (by omega) dX3_piece_47 (by decide) (fun h_47 => ?_) (fun h_47 => ?_)
    · exact absurd h_47 (by decide)
    · skip
      refine lv_iconst (v := nI 0) hx hb dX3_piece_50 (by decide) ?_
      exact W.iret (v := nI 0) hx hb hr (fun t ht hW => ⟨⟨_, (S, (up2 Z 0 0 1)), rfl, (have hc : cdP S x0 x1 = 1 := cd2_1 (ok := okP x0 x1) (full := S 0 0 = 20) (fun q => by have q2 := q; unfold okP at q2; first | (have z := in_f (by decide) (by decide) h_8; omega) | (have z := in_f (by decide) (by decide) h_19; omega)); ⟨fun q => absurd (hc.symm.trans q) (by decide), (nS_n (by rw [hc]; decide)).symm, by rw [hc]⟩), by rw [ht]; exact hP, hD⟩, hS.F ht⟩) hS.2.2 dX3_piece_51
  · skip
    refine lv_iload_n hx hb dX3_piece_11 rfl (lv_at hl 2 rfl) ?_
    refine lv_iconst (v := nI 1) hx hb dX3_piece_12 (by decide) ?_
    refine lv_sipush (v := nI 1000) hx hb dX3_piece_13 (by decide) ?_
    refine rd_S (As := [.int x1, .int (nI 1), .int (nI 1000)]) (rest := [.ref (q 0)]) ⟨hx, hb, hml, hown, hts⟩ (k_X3_in l x1 (nI 1) (nI 1000) ) (va_cwS 3 hts gX3_piece_X3_in rfl rfl rfl (by decide +kernel) ⟨by decide, by decide⟩) rfl hl.1 rfl (Nat.le_of_ble_eq_true rfl) dX3_piece_16 ⟨Nat.zero_le _, Nat.zero_le _⟩ ?_
    refine na_if_ne (tgt := 26) hx hb (bN_lt _) dX3_piece_19 (by decide) (fun h_19 => ?_) (fun h_19 => ?_)
    · skip
      refine lv_aload_n hx hb dX3_piece_26 rfl (lv_at hl 0 rfl) ?_
      refine va_get (D := D) (v := .int (nI (S 0 0))) hx hb hts hin_X3 hown hX.1 hP 0 rfl rfl 1 (by decide) hf_63 (fun _ h9 => h9) rfl dX3_piece_27 ?_
      refine lv_bipush (v := nI 20) hx hb dX3_piece_30 (by decide) ?_
      refine na_icmp_ne (tgt := 39) hx hb (by omega) (by omega) dX3_piece_32 (by decide) (fun h_32 => ?_) (fun h_32 => ?_)
      · skip
        refine lv_iconst (v := nI 0) hx hb dX3_piece_39 (by decide) ?_
        refine va_put (D := D) (v := .int (nI 0)) (ty := .int) hx hb hts hin_X3 tyX3 tyX3_ok nmX3 hown hX.1 hP hD hS 0 rfl rfl 0 (by decide) hf_59 (fun _ h9 => h9) rfl (by decide +kernel) rfl rfl (Nat.le_of_ble_eq_true rfl) dX3_piece_40 (fun H locs hP hD hS => ?_)
        have hP : va_P D vwCl (wM q k S (up2 Z 0 0 0)) H := sP_M0_0 hP
        have hD : va_D A (wM q k S (up2 Z 0 0 0)) := sD_M0_0 hD
        refine lv_aload_n hx hb dX3_piece_43 rfl (lv_at hl 0 rfl) ?_
        refine va_get (D := D) (v := .int (nI 0)) hx hb hts hin_X3 hown hX.1 hP 0 rfl rfl 0 (by decide) hf_59 (fun _ h9 => h9) rfl dX3_piece_44 ?_
        refine na_if_le (tgt := 52) hx hb (by omega) dX3_piece_47 (by decide) (fun h_47 => ?_) (fun h_47 => ?_)
        · skip
          have i0 := in_t (by decide) (by decide) h_8
          have i1 := in_t (by decide) (by decide) h_19
          have j0 := iN_toInt (x := x0) (by omega)
          have j1 := iN_toInt (x := x1) (by omega)
          refine lv_aload_n hx hb dX3_piece_52 rfl (lv_at hl 0 rfl) ?_
          refine va_get (D := D) (v := .ref (q 1)) hx hb hts hin_X3 hown hX.1 hP 0 rfl rfl 2 (by decide) hf_7 (fun _ h9 => h9) rfl dX3_piece_53 ?_
          refine lv_aload_n hx hb dX3_piece_56 rfl (lv_at hl 0 rfl) ?_
          refine va_get (D := D) (v := .int (nI (S 0 0))) hx hb hts hin_X3 hown hX.1 hP 0 rfl rfl 1 (by decide) hf_63 (fun _ h9 => h9) rfl dX3_piece_57 ?_
          refine lv_iload_n hx hb dX3_piece_60 rfl (lv_at hl 1 rfl) ?_
          refine na_as (y := nI (iN x0)) (iN_eq (by omega)) ?_
          refine na_iast hx hb hX.1 hP hD hS 1 0 rfl rfl (by omega) (by decide) (upd_enc nI _ _ _) dX3_piece_61 (fun H locs hP hD hS => ?_)
          have hP : va_P D vwCl (wM q k (up2 S 1 (S 0 0) (iN x0)) (up2 Z 0 0 0)) H := sP_M1 hP
          have hD : va_D A (wM q k (up2 S 1 (S 0 0) (iN x0)) (up2 Z 0 0 0)) := sD_M1 hD
          refine lv_aload_n hx hb dX3_piece_62 rfl (lv_at hl 0 rfl) ?_
          refine va_get (D := D) (v := .ref (q 2)) hx hb hts hin_X3 hown hX.1 hP 0 rfl rfl 3 (by decide) hf_13 (fun _ h9 => h9) rfl dX3_piece_63 ?_
          refine lv_aload_n hx hb dX3_piece_66 rfl (lv_at hl 0 rfl) ?_
          refine va_get (D := D) (v := .int (nI (S 0 0))) hx hb hts hin_X3 hown hX.1 hP 0 rfl rfl 1 (by decide) hf_63 (fun _ h9 => h9) rfl dX3_piece_67 ?_
          refine lv_iload_n hx hb dX3_piece_70 rfl (lv_at hl 2 rfl) ?_
          refine na_as (y := nI (iN x1)) (iN_eq (by omega)) ?_
          refine na_iast hx hb hX.1 hP hD hS 2 0 rfl rfl (by omega) (by decide) (upd_enc nI _ _ _) dX3_piece_71 (fun H locs hP hD hS => ?_)
          have hP : va_P D vwCl (wM q k (up2 (up2 S 1 (S 0 0) (iN x0)) 2 (S 0 0) (iN x1)) (up2 Z 0 0 0)) H := sP_M2 hP
          have hD : va_D A (wM q k (up2 (up2 S 1 (S 0 0) (iN x0)) 2 (S 0 0) (iN x1)) (up2 Z 0 0 0)) := sD_M2 hD
          refine lv_aload_n hx hb dX3_piece_72 rfl (lv_at hl 0 rfl) ?_
          refine va_get (D := D) (v := .ref (q 3)) hx hb hts hin_X3 hown hX.1 hP 0 rfl rfl 4 (by decide) hf_16 (fun _ h9 => h9) rfl dX3_piece_73 ?_
          refine lv_aload_n hx hb dX3_piece_76 rfl (lv_at hl 0 rfl) ?_
          refine va_get (D := D) (v := .int (nI (S 0 0))) hx hb hts hin_X3 hown hX.1 hP 0 rfl rfl 1 (by decide) hf_63 (fun _ h9 => h9) rfl dX3_piece_77 ?_
          refine lv_bipush (v := nI 100) hx hb dX3_piece_80 (by decide) ?_
          refine na_iast hx hb hX.1 hP hD hS 3 0 rfl rfl (by omega) (by decide) (upd_enc nI _ _ _) dX3_piece_82 (fun H locs hP hD hS => ?_)
          have hP : va_P D vwCl (wM q k (up2 (up2 (up2 S 1 (S 0 0) (iN x0)) 2 (S 0 0) (iN x1)) 3 (S 0 0) 100) (up2 Z 0 0 0)) H := sP_M3 hP
          have hD : va_D A (wM q k (up2 (up2 (up2 S 1 (S 0 0) (iN x0)) 2 (S 0 0) (iN x1)) 3 (S 0 0) 100) (up2 Z 0 0 0)) := sD_M3 hD
          refine lv_aload_n hx hb dX3_piece_83 rfl (lv_at hl 0 rfl) ?_
          refine va_get (D := D) (v := .ref (q 4)) hx hb hts hin_X3 hown hX.1 hP 0 rfl rfl 5 (by decide) hf_19 (fun _ h9 => h9) rfl dX3_piece_84 ?_
          refine lv_aload_n hx hb dX3_piece_87 rfl (lv_at hl 0 rfl) ?_
          refine va_get (D := D) (v := .int (nI (S 0 0))) hx hb hts hin_X3 hown hX.1 hP 0 rfl rfl 1 (by decide) hf_63 (fun _ h9 => h9) rfl dX3_piece_88 ?_
          refine lv_iload_n hx hb dX3_piece_91 rfl (lv_at hl 3 rfl) ?_
          refine na_zast hx hb hX.1 hP hD hS 4 1 rfl rfl (bN_le _) (by omega) (by decide) (upd_enc nI _ _ _) dX3_piece_92 (fun H locs hP hD hS => ?_)
          have hP : va_P D vwCl (wM q k (up2 (up2 (up2 (up2 S 1 (S 0 0) (iN x0)) 2 (S 0 0) (iN x1)) 3 (S 0 0) 100) 4 (S 0 0) (bN b)) (up2 Z 0 0 0)) H := sP_M4 hP
          have hD : va_D A (wM q k (up2 (up2 (up2 (up2 S 1 (S 0 0) (iN x0)) 2 (S 0 0) (iN x1)) 3 (S 0 0) 100) 4 (S 0 0) (bN b)) (up2 Z 0 0 0)) := sD_M4 hD
          refine lv_aload_n hx hb dX3_piece_93 rfl (lv_at hl 0 rfl) ?_
          refine lv_dup hx hb dX3_piece_94 rfl ?_
          refine va_get (D := D) (v := .int (nI (S 0 0))) hx hb hts hin_X3 hown hX.1 hP 0 rfl rfl 1 (by decide) hf_63 (fun _ h9 => h9) rfl dX3_piece_95 ?_
          refine lv_iconst (v := nI 1) hx hb dX3_piece_98 (by decide) ?_
          refine na_iadd hx hb dX3_piece_99 ?_
          refine va_put (D := D) (v := .int (nI ((S 0 0) + 1))) (ty := .int) hx hb hts hin_X3 tyX3 tyX3_ok nmX3 hown hX.1 hP hD hS 0 rfl rfl 1 (by decide) hf_63 (fun _ h9 => h9) rfl (by decide +kernel) rfl rfl (Nat.le_of_ble_eq_true rfl) dX3_piece_100 (fun H locs hP hD hS => ?_)
          have hP : va_P D vwCl (wM q k (up2 (up2 (up2 (up2 (up2 S 1 (S 0 0) (iN x0)) 2 (S 0 0) (iN x1)) 3 (S 0 0) 100) 4 (S 0 0) (bN b)) 0 0 ((S 0 0) + 1)) (up2 Z 0 0 0)) H := sP_M0_1 hP
          have hD : va_D A (wM q k (up2 (up2 (up2 (up2 (up2 S 1 (S 0 0) (iN x0)) 2 (S 0 0) (iN x1)) 3 (S 0 0) 100) 4 (S 0 0) (bN b)) 0 0 ((S 0 0) + 1)) (up2 Z 0 0 0)) := sD_M0_1 hD
          refine lv_aload_n hx hb dX3_piece_103 rfl (lv_at hl 0 rfl) ?_
          refine lv_dup hx hb dX3_piece_104 rfl ?_
          refine va_get (D := D) (v := .int (nI (S 0 4))) hx hb hts hin_X3 hown hX.1 hP 0 rfl rfl 17 (by decide) hf_70 (fun _ h9 => h9) rfl dX3_piece_105 ?_
          refine lv_iconst (v := nI 1) hx hb dX3_piece_108 (by decide) ?_
          refine na_iadd hx hb dX3_piece_109 ?_
          refine va_put (D := D) (v := .int (nI ((S 0 4) + 1))) (ty := .int) hx hb hts hin_X3 tyX3 tyX3_ok nmX3 hown hX.1 hP hD hS 0 rfl rfl 17 (by decide) hf_70 (fun _ h9 => h9) rfl (by decide +kernel) rfl rfl (Nat.le_of_ble_eq_true rfl) dX3_piece_110 (fun H locs hP hD hS => ?_)
          have hP : va_P D vwCl (wM q k (up2 (up2 (up2 (up2 (up2 (up2 S 1 (S 0 0) (iN x0)) 2 (S 0 0) (iN x1)) 3 (S 0 0) 100) 4 (S 0 0) (bN b)) 0 0 ((S 0 0) + 1)) 0 4 ((S 0 4) + 1)) (up2 Z 0 0 0)) H := sP_M0_17 hP
          have hD : va_D A (wM q k (up2 (up2 (up2 (up2 (up2 (up2 S 1 (S 0 0) (iN x0)) 2 (S 0 0) (iN x1)) 3 (S 0 0) 100) 4 (S 0 0) (bN b)) 0 0 ((S 0 0) + 1)) 0 4 ((S 0 4) + 1)) (up2 Z 0 0 0)) := sD_M0_17 hD
          refine lv_aload_n hx hb dX3_piece_113 rfl (lv_at hl 0 rfl) ?_
          refine va_get (D := D) (v := .int (nI ((S 0 0) + 1))) hx hb hts hin_X3 hown hX.1 hP 0 rfl rfl 1 (by decide) hf_63 (fun _ h9 => h9) rfl dX3_piece_114 ?_
          refine lv_iconst (v := nI 1) hx hb dX3_piece_117 (by decide) ?_
          refine na_isub hx hb (by omega) dX3_piece_118 ?_
          exact W.iret (v := nI (((S 0 0) + 1) - 1)) hx hb hr (fun t ht hW => ⟨⟨_, ((up2 (up2 (up2 (up2 (up2 (up2 S 1 (S 0 0) (iN x0)) 2 (S 0 0) (iN x1)) 3 (S 0 0) 100) 4 (S 0 0) (bN b)) 0 0 ((S 0 0) + 1)) 0 4 ((S 0 4) + 1)), (up2 Z 0 0 0)), rfl, ⟨fun _ => rfl, (nS_0 (cd2_0 (by unfold okP; omega) h_32)).symm, by rw [show cdP S x0 x1 = 0 from cd2_0 (by unfold okP; omega) h_32]⟩, by rw [ht]; exact hP, hD⟩, hS.F ht⟩) hS.2.2 dX3_piece_119
        · exact absurd h_47 (by decide)
      · skip
        refine lv_iconst (v := nI 2) hx hb dX3_piece_35 (by decide) ?_
        refine lv_goto (tgt := 40) hx hb dX3_piece_36 (by decide) ?_
        refine va_put (D := D) (v := .int (nI 2)) (ty := .int) hx hb hts hin_X3 tyX3 tyX3_ok nmX3 hown hX.1 hP hD hS 0 rfl rfl 0 (by decide) hf_59 (fun _ h9 => h9) rfl (by decide +kernel) rfl rfl (Nat.le_of_ble_eq_true rfl) dX3_piece_40 (fun H locs hP hD hS => ?_)
        have hP : va_P D vwCl (wM q k S (up2 Z 0 0 2)) H := sP_M0_0 hP
        have hD : va_D A (wM q k S (up2 Z 0 0 2)) := sD_M0_0 hD
        refine lv_aload_n hx hb dX3_piece_43 rfl (lv_at hl 0 rfl) ?_
        refine va_get (D := D) (v := .int (nI 2)) hx hb hts hin_X3 hown hX.1 hP 0 rfl rfl 0 (by decide) hf_59 (fun _ h9 => h9) rfl dX3_piece_44 ?_
        refine na_if_le (tgt := 52) hx hb (by omega) dX3_piece_47 (by decide) (fun h_47 => ?_) (fun h_47 => ?_)
        · exact absurd h_47 (by decide)
        · skip
          refine lv_iconst (v := nI 0) hx hb dX3_piece_50 (by decide) ?_
          exact W.iret (v := nI 0) hx hb hr (fun t ht hW => ⟨⟨_, (S, (up2 Z 0 0 2)), rfl, (have hc : cdP S x0 x1 = 2 := cd2_2 (ok := okP x0 x1) (full := S 0 0 = 20) (by have i0 := in_t (by decide) (by decide) h_8; have i1 := in_t (by decide) (by decide) h_19; unfold okP; omega) h_32; ⟨fun q => absurd (hc.symm.trans q) (by decide), (nS_n (by rw [hc]; decide)).symm, by rw [hc]⟩), by rw [ht]; exact hP, hD⟩, hS.F ht⟩) hS.2.2 dX3_piece_51
    · skip
      refine lv_iconst (v := nI 1) hx hb dX3_piece_22 (by decide) ?_
      refine lv_goto (tgt := 40) hx hb dX3_piece_23 (by decide) ?_
      refine va_put (D := D) (v := .int (nI 1)) (ty := .int) hx hb hts hin_X3 tyX3 tyX3_ok nmX3 hown hX.1 hP hD hS 0 rfl rfl 0 (by decide) hf_59 (fun _ h9 => h9) rfl (by decide +kernel) rfl rfl (Nat.le_of_ble_eq_true rfl) dX3_piece_40 (fun H locs hP hD hS => ?_)
      have hP : va_P D vwCl (wM q k S (up2 Z 0 0 1)) H := sP_M0_0 hP
      have hD : va_D A (wM q k S (up2 Z 0 0 1)) := sD_M0_0 hD
      refine lv_aload_n hx hb dX3_piece_43 rfl (lv_at hl 0 rfl) ?_
      refine va_get (D := D) (v := .int (nI 1)) hx hb hts hin_X3 hown hX.1 hP 0 rfl rfl 0 (by decide) hf_59 (fun _ h9 => h9) rfl dX3_piece_44 ?_
      refine na_if_le (tgt := 52) hx hb (by omega) dX3_piece_47 (by decide) (fun h_47 => ?_) (fun h_47 => ?_)
      · exact absurd h_47 (by decide)
      · skip
        refine lv_iconst (v := nI 0) hx hb dX3_piece_50 (by decide) ?_
        exact W.iret (v := nI 0) hx hb hr (fun t ht hW => ⟨⟨_, (S, (up2 Z 0 0 1)), rfl, (have hc : cdP S x0 x1 = 1 := cd2_1 (ok := okP x0 x1) (full := S 0 0 = 20) (fun q => by have q2 := q; unfold okP at q2; first | (have z := in_f (by decide) (by decide) h_8; omega) | (have z := in_f (by decide) (by decide) h_19; omega)); ⟨fun q => absurd (hc.symm.trans q) (by decide), (nS_n (by rw [hc]; decide)).symm, by rw [hc]⟩), by rw [ht]; exact hP, hD⟩, hS.F ht⟩) hS.2.2 dX3_piece_51

set_option maxHeartbeats 4000000 in
set_option maxRecDepth 100000 in
theorem k_X3_link (l : Launch) (D : va_G) (q : Nat → Nat) (k : Nat → ClassId) (S Z : Nat → Nat → Nat) (sz : Nat) (a0 : Nat) (b0 : Nat) (t0 : Nat) (hB : Bd S) (hj : S 0 1 % 2 = 0) (hm : S 0 1 < 80) : Met l yX3_link wsX3_link ({ frames := 0, cells := 0, slots := 0, locals := 0 } : Room) (va_Pc [.ref (q 0), .int (nI a0), .int (nI b0), .int (nI t0)] (wB D k (wM q k S Z) sz)) (va_Qi (fun (r : Int32) (u : (Nat → Nat → Nat) × (Nat → Nat → Nat)) => r = nI (S 0 1 / 2) ∧ u.1 = addJ S a0 b0 t0 ∧ u.2 = Z) (fun u t => wE D (va_A (wM q k S Z) sz) (wM q k u.1 u.2) t) (va_A (wM q k S Z) sz)) 0 0 (va_A (wM q k S Z) sz) := by
  refine Met.ofW (cc := cX3_link) (maxL := 4) (ret := (some .int)) (by decide) rfl ?_
  intro p e s m args below meth c s₁ B hml hv
  obtain ⟨rfl, hsz, hP, hX, hD0⟩ := hv
  have hx := B.exec
  have hb := B.bytes
  have hr := B.returns
  have hts := atoms_spec (ws := wsX3_link) B.pre
  have hown : s.vm.findClass RX3 = some m.cls := findClass_of_methodNamed B.named
  have hlocks := B.notSynchronized
  subst hsz
  have hD := hD0.self (sz := s.heap.size)
  generalize hAe : va_A (wM q k S Z) s.heap.size = A at hD ⊢
  have hA : ∀ q : Nat, s.heap.size ≤ q → A q := fun q h => by rw [← hAe]; exact Or.inr h
  have hS : va_S A s.heap s.heap [] := va_S.rf
  have hP : va_P D vwCl (wM q k S Z) s.heap := hP
  have hf_29 := hts (.fieldLink RX3 29 "FloorGraphModel" "one" "[I") (by decide +kernel)
  have hf_32 := hts (.fieldLink RX3 32 "FloorGraphModel" "two" "[I") (by decide +kernel)
  have hf_35 := hts (.fieldLink RX3 35 "FloorGraphModel" "turning" "[I") (by decide +kernel)
  have hf_70 := hts (.fieldLink RX3 70 "FloorGraphModel" "changes" "I") (by decide +kernel)
  have hf_73 := hts (.fieldLink RX3 73 "FloorGraphModel" "joins" "I") (by decide +kernel)
  have hin_X3 : ∀ w ∈ u_ws RX3 TX3 24, w ∈ wsX3_link := by decide +kernel
  have f0 := hB.1
  have hl := lv_entry ([.ref (q 0), .int (nI a0), .int (nI b0), .int (nI t0)]) (n := 4) (Nat.le_of_ble_eq_true rfl)
  rw [lg_entry_eq]
  generalize (lg_sl ([.ref (q 0), .int (nI a0), .int (nI b0), .int (nI t0)]) ++ List.replicate (4 - (lg_sl ([.ref (q 0), .int (nI a0), .int (nI b0), .int (nI t0)])).length) Slot.unset).toArray = ls at hl ⊢
  have hl : lv_has ls 4 [(0, .ref (q 0)), (1, .int (nI a0)), (2, .int (nI b0)), (3, .int (nI t0))] := hl
  refine lv_aload_n hx hb dX3_link_0 rfl (lv_at hl 0 rfl) ?_
  refine va_get (D := D) (v := .ref (q 7)) hx hb hts hin_X3 hown hX.1 hP 0 rfl rfl 9 (by decide) hf_29 (fun _ h9 => h9) rfl dX3_link_1 ?_
  refine lv_aload_n hx hb dX3_link_4 rfl (lv_at hl 0 rfl) ?_
  refine va_get (D := D) (v := .int (nI ((S 0 1) / 2))) hx hb hts hin_X3 hown hX.1 hP 0 rfl rfl 8 (by decide) hf_73 (fun _ h9 => h9) rfl dX3_link_5 ?_
  refine lv_iload_n hx hb dX3_link_8 rfl (lv_at hl 1 rfl) ?_
  refine na_iast hx hb hX.1 hP hD hS 7 0 rfl rfl (by omega) (by decide) (updE 7 _ a0 hj) dX3_link_9 (fun H locs hP hD hS => ?_)
  have hP : va_P D vwCl (wM q k (up2 S 7 (S 0 1) a0) Z) H := sP_M7 hP
  have hD : va_D A (wM q k (up2 S 7 (S 0 1) a0) Z) := sD_M7 hD
  refine lv_aload_n hx hb dX3_link_10 rfl (lv_at hl 0 rfl) ?_
  refine va_get (D := D) (v := .ref (q 8)) hx hb hts hin_X3 hown hX.1 hP 0 rfl rfl 10 (by decide) hf_32 (fun _ h9 => h9) rfl dX3_link_11 ?_
  refine lv_aload_n hx hb dX3_link_14 rfl (lv_at hl 0 rfl) ?_
  refine va_get (D := D) (v := .int (nI ((S 0 1) / 2))) hx hb hts hin_X3 hown hX.1 hP 0 rfl rfl 8 (by decide) hf_73 (fun _ h9 => h9) rfl dX3_link_15 ?_
  refine lv_iload_n hx hb dX3_link_18 rfl (lv_at hl 2 rfl) ?_
  refine na_iast hx hb hX.1 hP hD hS 8 0 rfl rfl (by omega) (by decide) (updE 8 _ b0 hj) dX3_link_19 (fun H locs hP hD hS => ?_)
  have hP : va_P D vwCl (wM q k (up2 (up2 S 7 (S 0 1) a0) 8 (S 0 1) b0) Z) H := sP_M8 hP
  have hD : va_D A (wM q k (up2 (up2 S 7 (S 0 1) a0) 8 (S 0 1) b0) Z) := sD_M8 hD
  refine lv_aload_n hx hb dX3_link_20 rfl (lv_at hl 0 rfl) ?_
  refine va_get (D := D) (v := .ref (q 9)) hx hb hts hin_X3 hown hX.1 hP 0 rfl rfl 11 (by decide) hf_35 (fun _ h9 => h9) rfl dX3_link_21 ?_
  refine lv_aload_n hx hb dX3_link_24 rfl (lv_at hl 0 rfl) ?_
  refine va_get (D := D) (v := .int (nI ((S 0 1) / 2))) hx hb hts hin_X3 hown hX.1 hP 0 rfl rfl 8 (by decide) hf_73 (fun _ h9 => h9) rfl dX3_link_25 ?_
  refine lv_iload_n hx hb dX3_link_28 rfl (lv_at hl 3 rfl) ?_
  refine na_iast hx hb hX.1 hP hD hS 9 0 rfl rfl (by omega) (by decide) (updE 9 _ t0 hj) dX3_link_29 (fun H locs hP hD hS => ?_)
  have hP : va_P D vwCl (wM q k (up2 (up2 (up2 S 7 (S 0 1) a0) 8 (S 0 1) b0) 9 (S 0 1) t0) Z) H := sP_M9 hP
  have hD : va_D A (wM q k (up2 (up2 (up2 S 7 (S 0 1) a0) 8 (S 0 1) b0) 9 (S 0 1) t0) Z) := sD_M9 hD
  refine lv_aload_n hx hb dX3_link_30 rfl (lv_at hl 0 rfl) ?_
  refine lv_dup hx hb dX3_link_31 rfl ?_
  refine va_get (D := D) (v := .int (nI ((S 0 1) / 2))) hx hb hts hin_X3 hown hX.1 hP 0 rfl rfl 8 (by decide) hf_73 (fun _ h9 => h9) rfl dX3_link_32 ?_
  refine lv_iconst (v := nI 1) hx hb dX3_link_35 (by decide) ?_
  refine na_iadd hx hb dX3_link_36 ?_
  refine va_put (D := D) (v := .int (nI (((S 0 1) / 2) + 1))) (ty := .int) hx hb hts hin_X3 tyX3 tyX3_ok nmX3 hown hX.1 hP hD hS 0 rfl rfl 8 (by decide) hf_73 (fun _ h9 => h9) rfl (by decide +kernel) rfl rfl (Nat.le_of_ble_eq_true rfl) dX3_link_37 (fun H locs hP hD hS => ?_)
  have hP := sP_M0_8 (P := S 0 1 + 2) (by omega) hP
  have hD := sD_M0_8 (P := S 0 1 + 2) (by omega) hD
  have hP : va_P D vwCl (wM q k (up2 (up2 (up2 (up2 S 7 (S 0 1) a0) 8 (S 0 1) b0) 9 (S 0 1) t0) 0 1 (S 0 1 + 2)) Z) H := hP
  have hD : va_D A (wM q k (up2 (up2 (up2 (up2 S 7 (S 0 1) a0) 8 (S 0 1) b0) 9 (S 0 1) t0) 0 1 (S 0 1 + 2)) Z) := hD
  refine lv_aload_n hx hb dX3_link_40 rfl (lv_at hl 0 rfl) ?_
  refine lv_dup hx hb dX3_link_41 rfl ?_
  refine va_get (D := D) (v := .int (nI (S 0 4))) hx hb hts hin_X3 hown hX.1 hP 0 rfl rfl 17 (by decide) hf_70 (fun _ h9 => h9) rfl dX3_link_42 ?_
  refine lv_iconst (v := nI 1) hx hb dX3_link_45 (by decide) ?_
  refine na_iadd hx hb dX3_link_46 ?_
  refine va_put (D := D) (v := .int (nI ((S 0 4) + 1))) (ty := .int) hx hb hts hin_X3 tyX3 tyX3_ok nmX3 hown hX.1 hP hD hS 0 rfl rfl 17 (by decide) hf_70 (fun _ h9 => h9) rfl (by decide +kernel) rfl rfl (Nat.le_of_ble_eq_true rfl) dX3_link_47 (fun H locs hP hD hS => ?_)
  have hP : va_P D vwCl (wM q k (up2 (up2 (up2 (up2 (up2 S 7 (S 0 1) a0) 8 (S 0 1) b0) 9 (S 0 1) t0) 0 1 (S 0 1 + 2)) 0 4 ((S 0 4) + 1)) Z) H := sP_M0_17 hP
  have hD : va_D A (wM q k (up2 (up2 (up2 (up2 (up2 S 7 (S 0 1) a0) 8 (S 0 1) b0) 9 (S 0 1) t0) 0 1 (S 0 1 + 2)) 0 4 ((S 0 4) + 1)) Z) := sD_M0_17 hD
  refine lv_aload_n hx hb dX3_link_50 rfl (lv_at hl 0 rfl) ?_
  refine va_get (D := D) (v := .int (nI ((S 0 1 + 2) / 2))) hx hb hts hin_X3 hown hX.1 hP 0 rfl rfl 8 (by decide) hf_73 (fun _ h9 => h9) rfl dX3_link_51 ?_
  refine lv_iconst (v := nI 1) hx hb dX3_link_54 (by decide) ?_
  refine na_isub hx hb (by omega) dX3_link_55 ?_
  rw [addJ_eq hj] at hP hD
  exact W.iret (v := nI (((S 0 1 + 2) / 2) - 1)) hx hb hr (fun t ht hW => ⟨⟨_, (addJ S a0 b0 t0, Z), rfl, ⟨congrArg nI (by omega), rfl, rfl⟩, by rw [ht]; exact hP, hD⟩, hS.F ht⟩) hS.2.2 dX3_link_56

set_option maxHeartbeats 4000000 in
set_option maxRecDepth 100000 in
theorem k_X3_join (l : Launch) (D : va_G) (q : Nat → Nat) (k : Nat → ClassId) (S Z : Nat → Nat → Nat) (sz : Nat) (x0 : Int32) (x1 : Int32) (x2 : Int32) (x3 : Int32) (x4 : Int32) (hB : Bd S) (hj : S 0 1 % 2 = 0) : Met l yX3_join wsX3_join ({ frames := 2, cells := 0, slots := 0, locals := 43 } : Room) (va_Pc [.ref (q 0), .int x0, .int x1, .int x2, .int x3, .int x4] (wB D k (wM q k S Z) sz)) (va_Qi (fun (r : Int32) (u : (Nat → Nat → Nat) × (Nat → Nat → Nat)) => (cdJ S x0 x1 x2 x3 x4 = 0 → r = nI (S 0 1 / 2)) ∧ u.1 = nS (cdJ S x0 x1 x2 x3 x4) S (addJ S (2 * iN x0 + iN x1) (2 * iN x2 + iN x3) (iN x4)) ∧ u.2 = up2 Z 0 0 (cdJ S x0 x1 x2 x3 x4)) (fun u t => wE D (va_A (wM q k S Z) sz) (wM q k u.1 u.2) t) (va_A (wM q k S Z) sz)) 0 0 (va_A (wM q k S Z) sz) := by
  refine Met.ofW (cc := cX3_join) (maxL := 7) (ret := (some .int)) (by decide) rfl ?_
  intro p e s m args below meth c s₁ B hml hv
  obtain ⟨rfl, hsz, hP, hX, hD0⟩ := hv
  have hx := B.exec
  have hb := B.bytes
  have hr := B.returns
  have hts := atoms_spec (ws := wsX3_join) B.pre
  have hown : s.vm.findClass RX3 = some m.cls := findClass_of_methodNamed B.named
  have hlocks := B.notSynchronized
  subst hsz
  have hD := hD0.self (sz := s.heap.size)
  generalize hAe : va_A (wM q k S Z) s.heap.size = A at hD ⊢
  have hA : ∀ q : Nat, s.heap.size ≤ q → A q := fun q h => by rw [← hAe]; exact Or.inr h
  have hS : va_S A s.heap s.heap [] := va_S.rf
  have hP : va_P D vwCl (wM q k S Z) s.heap := hP
  have hf_7 := hts (.fieldLink RX3 7 "FloorGraphModel" "level" "[I") (by decide +kernel)
  have hf_59 := hts (.fieldLink RX3 59 "FloorGraphModel" "code" "I") (by decide +kernel)
  have hf_73 := hts (.fieldLink RX3 73 "FloorGraphModel" "joins" "I") (by decide +kernel)
  have hin_X3 : ∀ w ∈ u_ws RX3 TX3 24, w ∈ wsX3_join := by decide +kernel
  have f0 := hB.1
  have hl := lv_entry ([.ref (q 0), .int x0, .int x1, .int x2, .int x3, .int x4]) (n := 7) (Nat.le_of_ble_eq_true rfl)
  rw [lg_entry_eq]
  generalize (lg_sl ([.ref (q 0), .int x0, .int x1, .int x2, .int x3, .int x4]) ++ List.replicate (7 - (lg_sl ([.ref (q 0), .int x0, .int x1, .int x2, .int x3, .int x4])).length) Slot.unset).toArray = ls at hl ⊢
  have hl : lv_has ls 7 [(0, .ref (q 0)), (1, .int x0), (2, .int x1), (3, .int x2), (4, .int x3), (5, .int x4)] := hl
  refine lv_aload_n hx hb dX3_join_0 rfl (lv_at hl 0 rfl) ?_
  refine lv_iload_n hx hb dX3_join_1 rfl (lv_at hl 1 rfl) ?_
  refine rd_V (As := [.int x0]) (rest := []) ⟨hx, hb, hml, hown, hts⟩ (k_X3_isPiece l D q k S Z x0 (by omega)) (cwV 1 hts gX3_join_X3_isPiece rfl rfl rfl (by decide +kernel) ⟨by decide, by decide⟩) hX hP (q0 := 0) rfl rfl rfl hl.1 rfl (Nat.le_of_ble_eq_true rfl) dX3_join_2 ⟨Nat.zero_le _, Nat.zero_le _⟩ ?_
  refine na_if_eq (tgt := 55) hx hb (bN_lt _) dX3_join_5 (by decide) (fun h_5 => ?_) (fun h_5 => ?_)
  · skip
    refine lv_iconst (v := nI 0) hx hb dX3_join_55 (by decide) ?_
    refine lv_istore (lv' := [(6, .int (nI 0)), (0, .ref (q 0)), (1, .int x0), (2, .int x1), (3, .int x2), (4, .int x3), (5, .int x4)]) hx hb dX3_join_56 hl (by decide) rfl (fun ls hl => ?_)
    refine lv_iload hx hb dX3_join_58 (lv_at hl 0 rfl) ?_
    refine na_if_eq (tgt := 85) hx hb (by omega) dX3_join_60 (by decide) (fun h_60 => ?_) (fun h_60 => ?_)
    · skip
      refine lv_aload_n hx hb dX3_join_85 rfl (lv_at hl 1 rfl) ?_
      refine lv_iload hx hb dX3_join_86 (lv_at hl 0 rfl) ?_
      refine na_if_ne (tgt := 95) hx hb (by omega) dX3_join_88 (by decide) (fun h_88 => ?_) (fun h_88 => ?_)
      · exact absurd h_88 (by decide)
      · skip
        refine lv_iconst (v := nI 1) hx hb dX3_join_91 (by decide) ?_
        refine lv_goto (tgt := 109) hx hb dX3_join_92 (by decide) ?_
        refine va_put (D := D) (v := .int (nI 1)) (ty := .int) hx hb hts hin_X3 tyX3 tyX3_ok nmX3 hown hX.1 hP hD hS 0 rfl rfl 0 (by decide) hf_59 (fun _ h9 => h9) rfl (by decide +kernel) rfl rfl (Nat.le_of_ble_eq_true rfl) dX3_join_109 (fun H locs hP hD hS => ?_)
        have hP : va_P D vwCl (wM q k S (up2 Z 0 0 1)) H := sP_M0_0 hP
        have hD : va_D A (wM q k S (up2 Z 0 0 1)) := sD_M0_0 hD
        refine lv_aload_n hx hb dX3_join_112 rfl (lv_at hl 1 rfl) ?_
        refine va_get (D := D) (v := .int (nI 1)) hx hb hts hin_X3 hown hX.1 hP 0 rfl rfl 0 (by decide) hf_59 (fun _ h9 => h9) rfl dX3_join_113 ?_
        refine na_if_le (tgt := 123) hx hb (by omega) dX3_join_116 (by decide) (fun h_116 => ?_) (fun h_116 => ?_)
        · exact absurd h_116 (by decide)
        · skip
          refine lv_iconst (v := nI 0) hx hb dX3_join_119 (by decide) ?_
          refine lv_goto (tgt := 140) hx hb dX3_join_120 (by decide) ?_
          exact W.iret (v := nI 0) hx hb hr (fun t ht hW => ⟨⟨_, (S, (up2 Z 0 0 1)), rfl, (have hc : cdJ S x0 x1 x2 x3 x4 = 1 := cd2_1 (ok := okJ S x0 x1 x2 x3 x4) (fun q => by unfold okJ isPc at q; first | (have z := isp_f h_5; omega) | (have z := isp_f h_13; omega) | (have z := in_f (by decide) (by decide) h_22; omega) | (have z := in_f (by decide) (by decide) h_32; omega) | (have z := h_37; omega) | (have z := in_f (by decide) (by decide) h_48; omega) | (have z := h_75; omega)); ⟨fun q => absurd (hc.symm.trans q) (by decide), (nS_n (by rw [hc]; decide)).symm, by rw [hc]⟩), by rw [ht]; exact hP, hD⟩, hS.F ht⟩) hS.2.2 dX3_join_140
    · exact absurd h_60 (by decide)
  · skip
    refine lv_aload_n hx hb dX3_join_8 rfl (lv_at hl 0 rfl) ?_
    refine lv_iload_n hx hb dX3_join_9 rfl (lv_at hl 3 rfl) ?_
    refine rd_V (As := [.int x2]) (rest := []) ⟨hx, hb, hml, hown, hts⟩ (k_X3_isPiece l D q k S Z x2 (by omega)) (cwV 1 hts gX3_join_X3_isPiece rfl rfl rfl (by decide +kernel) ⟨by decide, by decide⟩) hX hP (q0 := 0) rfl rfl rfl hl.1 rfl (Nat.le_of_ble_eq_true rfl) dX3_join_10 ⟨Nat.zero_le _, Nat.zero_le _⟩ ?_
    refine na_if_eq (tgt := 55) hx hb (bN_lt _) dX3_join_13 (by decide) (fun h_13 => ?_) (fun h_13 => ?_)
    · skip
      refine lv_iconst (v := nI 0) hx hb dX3_join_55 (by decide) ?_
      refine lv_istore (lv' := [(6, .int (nI 0)), (0, .ref (q 0)), (1, .int x0), (2, .int x1), (3, .int x2), (4, .int x3), (5, .int x4)]) hx hb dX3_join_56 hl (by decide) rfl (fun ls hl => ?_)
      refine lv_iload hx hb dX3_join_58 (lv_at hl 0 rfl) ?_
      refine na_if_eq (tgt := 85) hx hb (by omega) dX3_join_60 (by decide) (fun h_60 => ?_) (fun h_60 => ?_)
      · skip
        refine lv_aload_n hx hb dX3_join_85 rfl (lv_at hl 1 rfl) ?_
        refine lv_iload hx hb dX3_join_86 (lv_at hl 0 rfl) ?_
        refine na_if_ne (tgt := 95) hx hb (by omega) dX3_join_88 (by decide) (fun h_88 => ?_) (fun h_88 => ?_)
        · exact absurd h_88 (by decide)
        · skip
          refine lv_iconst (v := nI 1) hx hb dX3_join_91 (by decide) ?_
          refine lv_goto (tgt := 109) hx hb dX3_join_92 (by decide) ?_
          refine va_put (D := D) (v := .int (nI 1)) (ty := .int) hx hb hts hin_X3 tyX3 tyX3_ok nmX3 hown hX.1 hP hD hS 0 rfl rfl 0 (by decide) hf_59 (fun _ h9 => h9) rfl (by decide +kernel) rfl rfl (Nat.le_of_ble_eq_true rfl) dX3_join_109 (fun H locs hP hD hS => ?_)
          have hP : va_P D vwCl (wM q k S (up2 Z 0 0 1)) H := sP_M0_0 hP
          have hD : va_D A (wM q k S (up2 Z 0 0 1)) := sD_M0_0 hD
          refine lv_aload_n hx hb dX3_join_112 rfl (lv_at hl 1 rfl) ?_
          refine va_get (D := D) (v := .int (nI 1)) hx hb hts hin_X3 hown hX.1 hP 0 rfl rfl 0 (by decide) hf_59 (fun _ h9 => h9) rfl dX3_join_113 ?_
          refine na_if_le (tgt := 123) hx hb (by omega) dX3_join_116 (by decide) (fun h_116 => ?_) (fun h_116 => ?_)
          · exact absurd h_116 (by decide)
          · skip
            refine lv_iconst (v := nI 0) hx hb dX3_join_119 (by decide) ?_
            refine lv_goto (tgt := 140) hx hb dX3_join_120 (by decide) ?_
            exact W.iret (v := nI 0) hx hb hr (fun t ht hW => ⟨⟨_, (S, (up2 Z 0 0 1)), rfl, (have hc : cdJ S x0 x1 x2 x3 x4 = 1 := cd2_1 (ok := okJ S x0 x1 x2 x3 x4) (fun q => by unfold okJ isPc at q; first | (have z := isp_f h_5; omega) | (have z := isp_f h_13; omega) | (have z := in_f (by decide) (by decide) h_22; omega) | (have z := in_f (by decide) (by decide) h_32; omega) | (have z := h_37; omega) | (have z := in_f (by decide) (by decide) h_48; omega) | (have z := h_75; omega)); ⟨fun q => absurd (hc.symm.trans q) (by decide), (nS_n (by rw [hc]; decide)).symm, by rw [hc]⟩), by rw [ht]; exact hP, hD⟩, hS.F ht⟩) hS.2.2 dX3_join_140
      · exact absurd h_60 (by decide)
    · skip
      refine lv_iload_n hx hb dX3_join_16 rfl (lv_at hl 2 rfl) ?_
      refine lv_iconst (v := nI 0) hx hb dX3_join_17 (by decide) ?_
      refine lv_iconst (v := nI 1) hx hb dX3_join_18 (by decide) ?_
      refine rd_S (As := [.int x1, .int (nI 0), .int (nI 1)]) (rest := []) ⟨hx, hb, hml, hown, hts⟩ (k_X3_in l x1 (nI 0) (nI 1) ) (va_cwS 3 hts gX3_join_X3_in rfl rfl rfl (by decide +kernel) ⟨by decide, by decide⟩) rfl hl.1 rfl (Nat.le_of_ble_eq_true rfl) dX3_join_19 ⟨Nat.zero_le _, Nat.zero_le _⟩ ?_
      refine na_if_eq (tgt := 55) hx hb (bN_lt _) dX3_join_22 (by decide) (fun h_22 => ?_) (fun h_22 => ?_)
      · skip
        refine lv_iconst (v := nI 0) hx hb dX3_join_55 (by decide) ?_
        refine lv_istore (lv' := [(6, .int (nI 0)), (0, .ref (q 0)), (1, .int x0), (2, .int x1), (3, .int x2), (4, .int x3), (5, .int x4)]) hx hb dX3_join_56 hl (by decide) rfl (fun ls hl => ?_)
        refine lv_iload hx hb dX3_join_58 (lv_at hl 0 rfl) ?_
        refine na_if_eq (tgt := 85) hx hb (by omega) dX3_join_60 (by decide) (fun h_60 => ?_) (fun h_60 => ?_)
        · skip
          refine lv_aload_n hx hb dX3_join_85 rfl (lv_at hl 1 rfl) ?_
          refine lv_iload hx hb dX3_join_86 (lv_at hl 0 rfl) ?_
          refine na_if_ne (tgt := 95) hx hb (by omega) dX3_join_88 (by decide) (fun h_88 => ?_) (fun h_88 => ?_)
          · exact absurd h_88 (by decide)
          · skip
            refine lv_iconst (v := nI 1) hx hb dX3_join_91 (by decide) ?_
            refine lv_goto (tgt := 109) hx hb dX3_join_92 (by decide) ?_
            refine va_put (D := D) (v := .int (nI 1)) (ty := .int) hx hb hts hin_X3 tyX3 tyX3_ok nmX3 hown hX.1 hP hD hS 0 rfl rfl 0 (by decide) hf_59 (fun _ h9 => h9) rfl (by decide +kernel) rfl rfl (Nat.le_of_ble_eq_true rfl) dX3_join_109 (fun H locs hP hD hS => ?_)
            have hP : va_P D vwCl (wM q k S (up2 Z 0 0 1)) H := sP_M0_0 hP
            have hD : va_D A (wM q k S (up2 Z 0 0 1)) := sD_M0_0 hD
            refine lv_aload_n hx hb dX3_join_112 rfl (lv_at hl 1 rfl) ?_
            refine va_get (D := D) (v := .int (nI 1)) hx hb hts hin_X3 hown hX.1 hP 0 rfl rfl 0 (by decide) hf_59 (fun _ h9 => h9) rfl dX3_join_113 ?_
            refine na_if_le (tgt := 123) hx hb (by omega) dX3_join_116 (by decide) (fun h_116 => ?_) (fun h_116 => ?_)
            · exact absurd h_116 (by decide)
            · skip
              refine lv_iconst (v := nI 0) hx hb dX3_join_119 (by decide) ?_
              refine lv_goto (tgt := 140) hx hb dX3_join_120 (by decide) ?_
              exact W.iret (v := nI 0) hx hb hr (fun t ht hW => ⟨⟨_, (S, (up2 Z 0 0 1)), rfl, (have hc : cdJ S x0 x1 x2 x3 x4 = 1 := cd2_1 (ok := okJ S x0 x1 x2 x3 x4) (fun q => by unfold okJ isPc at q; first | (have z := isp_f h_5; omega) | (have z := isp_f h_13; omega) | (have z := in_f (by decide) (by decide) h_22; omega) | (have z := in_f (by decide) (by decide) h_32; omega) | (have z := h_37; omega) | (have z := in_f (by decide) (by decide) h_48; omega) | (have z := h_75; omega)); ⟨fun q => absurd (hc.symm.trans q) (by decide), (nS_n (by rw [hc]; decide)).symm, by rw [hc]⟩), by rw [ht]; exact hP, hD⟩, hS.F ht⟩) hS.2.2 dX3_join_140
        · exact absurd h_60 (by decide)
      · skip
        refine lv_iload hx hb dX3_join_25 (lv_at hl 4 rfl) ?_
        refine lv_iconst (v := nI 0) hx hb dX3_join_27 (by decide) ?_
        refine lv_iconst (v := nI 1) hx hb dX3_join_28 (by decide) ?_
        refine rd_S (As := [.int x3, .int (nI 0), .int (nI 1)]) (rest := []) ⟨hx, hb, hml, hown, hts⟩ (k_X3_in l x3 (nI 0) (nI 1) ) (va_cwS 3 hts gX3_join_X3_in rfl rfl rfl (by decide +kernel) ⟨by decide, by decide⟩) rfl hl.1 rfl (Nat.le_of_ble_eq_true rfl) dX3_join_29 ⟨Nat.zero_le _, Nat.zero_le _⟩ ?_
        refine na_if_eq (tgt := 55) hx hb (bN_lt _) dX3_join_32 (by decide) (fun h_32 => ?_) (fun h_32 => ?_)
        · skip
          refine lv_iconst (v := nI 0) hx hb dX3_join_55 (by decide) ?_
          refine lv_istore (lv' := [(6, .int (nI 0)), (0, .ref (q 0)), (1, .int x0), (2, .int x1), (3, .int x2), (4, .int x3), (5, .int x4)]) hx hb dX3_join_56 hl (by decide) rfl (fun ls hl => ?_)
          refine lv_iload hx hb dX3_join_58 (lv_at hl 0 rfl) ?_
          refine na_if_eq (tgt := 85) hx hb (by omega) dX3_join_60 (by decide) (fun h_60 => ?_) (fun h_60 => ?_)
          · skip
            refine lv_aload_n hx hb dX3_join_85 rfl (lv_at hl 1 rfl) ?_
            refine lv_iload hx hb dX3_join_86 (lv_at hl 0 rfl) ?_
            refine na_if_ne (tgt := 95) hx hb (by omega) dX3_join_88 (by decide) (fun h_88 => ?_) (fun h_88 => ?_)
            · exact absurd h_88 (by decide)
            · skip
              refine lv_iconst (v := nI 1) hx hb dX3_join_91 (by decide) ?_
              refine lv_goto (tgt := 109) hx hb dX3_join_92 (by decide) ?_
              refine va_put (D := D) (v := .int (nI 1)) (ty := .int) hx hb hts hin_X3 tyX3 tyX3_ok nmX3 hown hX.1 hP hD hS 0 rfl rfl 0 (by decide) hf_59 (fun _ h9 => h9) rfl (by decide +kernel) rfl rfl (Nat.le_of_ble_eq_true rfl) dX3_join_109 (fun H locs hP hD hS => ?_)
              have hP : va_P D vwCl (wM q k S (up2 Z 0 0 1)) H := sP_M0_0 hP
              have hD : va_D A (wM q k S (up2 Z 0 0 1)) := sD_M0_0 hD
              refine lv_aload_n hx hb dX3_join_112 rfl (lv_at hl 1 rfl) ?_
              refine va_get (D := D) (v := .int (nI 1)) hx hb hts hin_X3 hown hX.1 hP 0 rfl rfl 0 (by decide) hf_59 (fun _ h9 => h9) rfl dX3_join_113 ?_
              refine na_if_le (tgt := 123) hx hb (by omega) dX3_join_116 (by decide) (fun h_116 => ?_) (fun h_116 => ?_)
              · exact absurd h_116 (by decide)
              · skip
                refine lv_iconst (v := nI 0) hx hb dX3_join_119 (by decide) ?_
                refine lv_goto (tgt := 140) hx hb dX3_join_120 (by decide) ?_
                exact W.iret (v := nI 0) hx hb hr (fun t ht hW => ⟨⟨_, (S, (up2 Z 0 0 1)), rfl, (have hc : cdJ S x0 x1 x2 x3 x4 = 1 := cd2_1 (ok := okJ S x0 x1 x2 x3 x4) (fun q => by unfold okJ isPc at q; first | (have z := isp_f h_5; omega) | (have z := isp_f h_13; omega) | (have z := in_f (by decide) (by decide) h_22; omega) | (have z := in_f (by decide) (by decide) h_32; omega) | (have z := h_37; omega) | (have z := in_f (by decide) (by decide) h_48; omega) | (have z := h_75; omega)); ⟨fun q => absurd (hc.symm.trans q) (by decide), (nS_n (by rw [hc]; decide)).symm, by rw [hc]⟩), by rw [ht]; exact hP, hD⟩, hS.F ht⟩) hS.2.2 dX3_join_140
          · exact absurd h_60 (by decide)
        · skip
          refine lv_iload_n hx hb dX3_join_35 rfl (lv_at hl 1 rfl) ?_
          refine lv_iload_n hx hb dX3_join_36 rfl (lv_at hl 3 rfl) ?_
          refine nr_icmp_eq (tgt := 55) hx hb dX3_join_37 (by decide) (fun h_37 => ?_) (fun h_37 => ?_)
          · skip
            refine lv_iconst (v := nI 0) hx hb dX3_join_55 (by decide) ?_
            refine lv_istore (lv' := [(6, .int (nI 0)), (0, .ref (q 0)), (1, .int x0), (2, .int x1), (3, .int x2), (4, .int x3), (5, .int x4)]) hx hb dX3_join_56 hl (by decide) rfl (fun ls hl => ?_)
            refine lv_iload hx hb dX3_join_58 (lv_at hl 0 rfl) ?_
            refine na_if_eq (tgt := 85) hx hb (by omega) dX3_join_60 (by decide) (fun h_60 => ?_) (fun h_60 => ?_)
            · skip
              refine lv_aload_n hx hb dX3_join_85 rfl (lv_at hl 1 rfl) ?_
              refine lv_iload hx hb dX3_join_86 (lv_at hl 0 rfl) ?_
              refine na_if_ne (tgt := 95) hx hb (by omega) dX3_join_88 (by decide) (fun h_88 => ?_) (fun h_88 => ?_)
              · exact absurd h_88 (by decide)
              · skip
                refine lv_iconst (v := nI 1) hx hb dX3_join_91 (by decide) ?_
                refine lv_goto (tgt := 109) hx hb dX3_join_92 (by decide) ?_
                refine va_put (D := D) (v := .int (nI 1)) (ty := .int) hx hb hts hin_X3 tyX3 tyX3_ok nmX3 hown hX.1 hP hD hS 0 rfl rfl 0 (by decide) hf_59 (fun _ h9 => h9) rfl (by decide +kernel) rfl rfl (Nat.le_of_ble_eq_true rfl) dX3_join_109 (fun H locs hP hD hS => ?_)
                have hP : va_P D vwCl (wM q k S (up2 Z 0 0 1)) H := sP_M0_0 hP
                have hD : va_D A (wM q k S (up2 Z 0 0 1)) := sD_M0_0 hD
                refine lv_aload_n hx hb dX3_join_112 rfl (lv_at hl 1 rfl) ?_
                refine va_get (D := D) (v := .int (nI 1)) hx hb hts hin_X3 hown hX.1 hP 0 rfl rfl 0 (by decide) hf_59 (fun _ h9 => h9) rfl dX3_join_113 ?_
                refine na_if_le (tgt := 123) hx hb (by omega) dX3_join_116 (by decide) (fun h_116 => ?_) (fun h_116 => ?_)
                · exact absurd h_116 (by decide)
                · skip
                  refine lv_iconst (v := nI 0) hx hb dX3_join_119 (by decide) ?_
                  refine lv_goto (tgt := 140) hx hb dX3_join_120 (by decide) ?_
                  exact W.iret (v := nI 0) hx hb hr (fun t ht hW => ⟨⟨_, (S, (up2 Z 0 0 1)), rfl, (have hc : cdJ S x0 x1 x2 x3 x4 = 1 := cd2_1 (ok := okJ S x0 x1 x2 x3 x4) (fun q => by unfold okJ isPc at q; first | (have z := isp_f h_5; omega) | (have z := isp_f h_13; omega) | (have z := in_f (by decide) (by decide) h_22; omega) | (have z := in_f (by decide) (by decide) h_32; omega) | (have z := h_37; omega) | (have z := in_f (by decide) (by decide) h_48; omega) | (have z := h_75; omega)); ⟨fun q => absurd (hc.symm.trans q) (by decide), (nS_n (by rw [hc]; decide)).symm, by rw [hc]⟩), by rw [ht]; exact hP, hD⟩, hS.F ht⟩) hS.2.2 dX3_join_140
            · exact absurd h_60 (by decide)
          · skip
            refine lv_iload hx hb dX3_join_40 (lv_at hl 5 rfl) ?_
            refine lv_iconst (v := nI 0) hx hb dX3_join_42 (by decide) ?_
            refine lv_bipush (v := nI 100) hx hb dX3_join_43 (by decide) ?_
            refine rd_S (As := [.int x4, .int (nI 0), .int (nI 100)]) (rest := []) ⟨hx, hb, hml, hown, hts⟩ (k_X3_in l x4 (nI 0) (nI 100) ) (va_cwS 3 hts gX3_join_X3_in rfl rfl rfl (by decide +kernel) ⟨by decide, by decide⟩) rfl hl.1 rfl (Nat.le_of_ble_eq_true rfl) dX3_join_45 ⟨Nat.zero_le _, Nat.zero_le _⟩ ?_
            refine na_if_eq (tgt := 55) hx hb (bN_lt _) dX3_join_48 (by decide) (fun h_48 => ?_) (fun h_48 => ?_)
            · skip
              refine lv_iconst (v := nI 0) hx hb dX3_join_55 (by decide) ?_
              refine lv_istore (lv' := [(6, .int (nI 0)), (0, .ref (q 0)), (1, .int x0), (2, .int x1), (3, .int x2), (4, .int x3), (5, .int x4)]) hx hb dX3_join_56 hl (by decide) rfl (fun ls hl => ?_)
              refine lv_iload hx hb dX3_join_58 (lv_at hl 0 rfl) ?_
              refine na_if_eq (tgt := 85) hx hb (by omega) dX3_join_60 (by decide) (fun h_60 => ?_) (fun h_60 => ?_)
              · skip
                refine lv_aload_n hx hb dX3_join_85 rfl (lv_at hl 1 rfl) ?_
                refine lv_iload hx hb dX3_join_86 (lv_at hl 0 rfl) ?_
                refine na_if_ne (tgt := 95) hx hb (by omega) dX3_join_88 (by decide) (fun h_88 => ?_) (fun h_88 => ?_)
                · exact absurd h_88 (by decide)
                · skip
                  refine lv_iconst (v := nI 1) hx hb dX3_join_91 (by decide) ?_
                  refine lv_goto (tgt := 109) hx hb dX3_join_92 (by decide) ?_
                  refine va_put (D := D) (v := .int (nI 1)) (ty := .int) hx hb hts hin_X3 tyX3 tyX3_ok nmX3 hown hX.1 hP hD hS 0 rfl rfl 0 (by decide) hf_59 (fun _ h9 => h9) rfl (by decide +kernel) rfl rfl (Nat.le_of_ble_eq_true rfl) dX3_join_109 (fun H locs hP hD hS => ?_)
                  have hP : va_P D vwCl (wM q k S (up2 Z 0 0 1)) H := sP_M0_0 hP
                  have hD : va_D A (wM q k S (up2 Z 0 0 1)) := sD_M0_0 hD
                  refine lv_aload_n hx hb dX3_join_112 rfl (lv_at hl 1 rfl) ?_
                  refine va_get (D := D) (v := .int (nI 1)) hx hb hts hin_X3 hown hX.1 hP 0 rfl rfl 0 (by decide) hf_59 (fun _ h9 => h9) rfl dX3_join_113 ?_
                  refine na_if_le (tgt := 123) hx hb (by omega) dX3_join_116 (by decide) (fun h_116 => ?_) (fun h_116 => ?_)
                  · exact absurd h_116 (by decide)
                  · skip
                    refine lv_iconst (v := nI 0) hx hb dX3_join_119 (by decide) ?_
                    refine lv_goto (tgt := 140) hx hb dX3_join_120 (by decide) ?_
                    exact W.iret (v := nI 0) hx hb hr (fun t ht hW => ⟨⟨_, (S, (up2 Z 0 0 1)), rfl, (have hc : cdJ S x0 x1 x2 x3 x4 = 1 := cd2_1 (ok := okJ S x0 x1 x2 x3 x4) (fun q => by unfold okJ isPc at q; first | (have z := isp_f h_5; omega) | (have z := isp_f h_13; omega) | (have z := in_f (by decide) (by decide) h_22; omega) | (have z := in_f (by decide) (by decide) h_32; omega) | (have z := h_37; omega) | (have z := in_f (by decide) (by decide) h_48; omega) | (have z := h_75; omega)); ⟨fun q => absurd (hc.symm.trans q) (by decide), (nS_n (by rw [hc]; decide)).symm, by rw [hc]⟩), by rw [ht]; exact hP, hD⟩, hS.F ht⟩) hS.2.2 dX3_join_140
              · exact absurd h_60 (by decide)
            · skip
              refine lv_iconst (v := nI 1) hx hb dX3_join_51 (by decide) ?_
              refine lv_goto (tgt := 56) hx hb dX3_join_52 (by decide) ?_
              refine lv_istore (lv' := [(6, .int (nI 1)), (0, .ref (q 0)), (1, .int x0), (2, .int x1), (3, .int x2), (4, .int x3), (5, .int x4)]) hx hb dX3_join_56 hl (by decide) rfl (fun ls hl => ?_)
              refine lv_iload hx hb dX3_join_58 (lv_at hl 0 rfl) ?_
              refine na_if_eq (tgt := 85) hx hb (by omega) dX3_join_60 (by decide) (fun h_60 => ?_) (fun h_60 => ?_)
              · exact absurd h_60 (by decide)
              · skip
                have i0 := isp_t h_5
                have i1 := isp_t h_13
                have i2 := in_t (by decide) (by decide) h_22
                have i3 := in_t (by decide) (by decide) h_32
                have i5 := in_t (by decide) (by decide) h_48
                have j0 := iN_toInt (x := x0) (by omega)
                have j2 := iN_toInt (x := x2) (by omega)
                have j1 := iN_toInt (x := x1) (by omega)
                have j3 := iN_toInt (x := x3) (by omega)
                have j4 := iN_toInt (x := x4) (by omega)
                have fl0 := (hB.2.1 (iN x0)).1
                have fl2 := (hB.2.1 (iN x2)).1
                refine lv_aload_n hx hb dX3_join_63 rfl (lv_at hl 1 rfl) ?_
                refine va_get (D := D) (v := .ref (q 1)) hx hb hts hin_X3 hown hX.1 hP 0 rfl rfl 2 (by decide) hf_7 (fun _ h9 => h9) rfl dX3_join_64 ?_
                refine lv_iload_n hx hb dX3_join_67 rfl (lv_at hl 2 rfl) ?_
                refine na_as (y := nI (iN x0)) (iN_eq (by omega)) ?_
                refine na_iald hx hb hX.1 hP 1 0 rfl rfl (by omega) (by decide) dX3_join_68 ?_
                refine lv_aload_n hx hb dX3_join_69 rfl (lv_at hl 1 rfl) ?_
                refine va_get (D := D) (v := .ref (q 1)) hx hb hts hin_X3 hown hX.1 hP 0 rfl rfl 2 (by decide) hf_7 (fun _ h9 => h9) rfl dX3_join_70 ?_
                refine lv_iload_n hx hb dX3_join_73 rfl (lv_at hl 4 rfl) ?_
                refine na_as (y := nI (iN x2)) (iN_eq (by omega)) ?_
                refine na_iald hx hb hX.1 hP 1 0 rfl rfl (by omega) (by decide) dX3_join_74 ?_
                refine na_icmp_ne (tgt := 82) hx hb (by omega) (by omega) dX3_join_75 (by decide) (fun h_75 => ?_) (fun h_75 => ?_)
                · skip
                  refine lv_iconst (v := nI 0) hx hb dX3_join_82 (by decide) ?_
                  refine lv_istore (lv' := [(6, .int (nI 0)), (0, .ref (q 0)), (1, .int x0), (2, .int x1), (3, .int x2), (4, .int x3), (5, .int x4)]) hx hb dX3_join_83 hl (by decide) rfl (fun ls hl => ?_)
                  refine lv_aload_n hx hb dX3_join_85 rfl (lv_at hl 1 rfl) ?_
                  refine lv_iload hx hb dX3_join_86 (lv_at hl 0 rfl) ?_
                  refine na_if_ne (tgt := 95) hx hb (by omega) dX3_join_88 (by decide) (fun h_88 => ?_) (fun h_88 => ?_)
                  · exact absurd h_88 (by decide)
                  · skip
                    refine lv_iconst (v := nI 1) hx hb dX3_join_91 (by decide) ?_
                    refine lv_goto (tgt := 109) hx hb dX3_join_92 (by decide) ?_
                    refine va_put (D := D) (v := .int (nI 1)) (ty := .int) hx hb hts hin_X3 tyX3 tyX3_ok nmX3 hown hX.1 hP hD hS 0 rfl rfl 0 (by decide) hf_59 (fun _ h9 => h9) rfl (by decide +kernel) rfl rfl (Nat.le_of_ble_eq_true rfl) dX3_join_109 (fun H locs hP hD hS => ?_)
                    have hP : va_P D vwCl (wM q k S (up2 Z 0 0 1)) H := sP_M0_0 hP
                    have hD : va_D A (wM q k S (up2 Z 0 0 1)) := sD_M0_0 hD
                    refine lv_aload_n hx hb dX3_join_112 rfl (lv_at hl 1 rfl) ?_
                    refine va_get (D := D) (v := .int (nI 1)) hx hb hts hin_X3 hown hX.1 hP 0 rfl rfl 0 (by decide) hf_59 (fun _ h9 => h9) rfl dX3_join_113 ?_
                    refine na_if_le (tgt := 123) hx hb (by omega) dX3_join_116 (by decide) (fun h_116 => ?_) (fun h_116 => ?_)
                    · exact absurd h_116 (by decide)
                    · skip
                      refine lv_iconst (v := nI 0) hx hb dX3_join_119 (by decide) ?_
                      refine lv_goto (tgt := 140) hx hb dX3_join_120 (by decide) ?_
                      exact W.iret (v := nI 0) hx hb hr (fun t ht hW => ⟨⟨_, (S, (up2 Z 0 0 1)), rfl, (have hc : cdJ S x0 x1 x2 x3 x4 = 1 := cd2_1 (ok := okJ S x0 x1 x2 x3 x4) (fun q => by unfold okJ isPc at q; first | (have z := isp_f h_5; omega) | (have z := isp_f h_13; omega) | (have z := in_f (by decide) (by decide) h_22; omega) | (have z := in_f (by decide) (by decide) h_32; omega) | (have z := h_37; omega) | (have z := in_f (by decide) (by decide) h_48; omega) | (have z := h_75; omega)); ⟨fun q => absurd (hc.symm.trans q) (by decide), (nS_n (by rw [hc]; decide)).symm, by rw [hc]⟩), by rw [ht]; exact hP, hD⟩, hS.F ht⟩) hS.2.2 dX3_join_140
                · skip
                  refine lv_iconst (v := nI 1) hx hb dX3_join_78 (by decide) ?_
                  refine lv_goto (tgt := 83) hx hb dX3_join_79 (by decide) ?_
                  refine lv_istore (lv' := [(6, .int (nI 1)), (0, .ref (q 0)), (1, .int x0), (2, .int x1), (3, .int x2), (4, .int x3), (5, .int x4)]) hx hb dX3_join_83 hl (by decide) rfl (fun ls hl => ?_)
                  refine lv_aload_n hx hb dX3_join_85 rfl (lv_at hl 1 rfl) ?_
                  refine lv_iload hx hb dX3_join_86 (lv_at hl 0 rfl) ?_
                  refine na_if_ne (tgt := 95) hx hb (by omega) dX3_join_88 (by decide) (fun h_88 => ?_) (fun h_88 => ?_)
                  · skip
                    refine lv_aload_n hx hb dX3_join_95 rfl (lv_at hl 1 rfl) ?_
                    refine va_get (D := D) (v := .int (nI ((S 0 1) / 2))) hx hb hts hin_X3 hown hX.1 hP 0 rfl rfl 8 (by decide) hf_73 (fun _ h9 => h9) rfl dX3_join_96 ?_
                    refine lv_bipush (v := nI 40) hx hb dX3_join_99 (by decide) ?_
                    refine na_icmp_ne (tgt := 108) hx hb (by omega) (by omega) dX3_join_101 (by decide) (fun h_101 => ?_) (fun h_101 => ?_)
                    · skip
                      refine lv_iconst (v := nI 0) hx hb dX3_join_108 (by decide) ?_
                      refine va_put (D := D) (v := .int (nI 0)) (ty := .int) hx hb hts hin_X3 tyX3 tyX3_ok nmX3 hown hX.1 hP hD hS 0 rfl rfl 0 (by decide) hf_59 (fun _ h9 => h9) rfl (by decide +kernel) rfl rfl (Nat.le_of_ble_eq_true rfl) dX3_join_109 (fun H locs hP hD hS => ?_)
                      have hP : va_P D vwCl (wM q k S (up2 Z 0 0 0)) H := sP_M0_0 hP
                      have hD : va_D A (wM q k S (up2 Z 0 0 0)) := sD_M0_0 hD
                      refine lv_aload_n hx hb dX3_join_112 rfl (lv_at hl 1 rfl) ?_
                      refine va_get (D := D) (v := .int (nI 0)) hx hb hts hin_X3 hown hX.1 hP 0 rfl rfl 0 (by decide) hf_59 (fun _ h9 => h9) rfl dX3_join_113 ?_
                      refine na_if_le (tgt := 123) hx hb (by omega) dX3_join_116 (by decide) (fun h_116 => ?_) (fun h_116 => ?_)
                      · skip
                        refine lv_aload_n hx hb dX3_join_123 rfl (lv_at hl 1 rfl) ?_
                        refine lv_iconst (v := nI 2) hx hb dX3_join_124 (by decide) ?_
                        refine lv_iload_n hx hb dX3_join_125 rfl (lv_at hl 2 rfl) ?_
                        refine na_as (y := nI (iN x0)) (iN_eq (by omega)) ?_
                        refine na_imul hx hb dX3_join_126 ?_
                        refine lv_iload_n hx hb dX3_join_127 rfl (lv_at hl 3 rfl) ?_
                        refine na_as (y := nI (iN x1)) (iN_eq (by omega)) ?_
                        refine na_iadd hx hb dX3_join_128 ?_
                        refine lv_iconst (v := nI 2) hx hb dX3_join_129 (by decide) ?_
                        refine lv_iload_n hx hb dX3_join_130 rfl (lv_at hl 4 rfl) ?_
                        refine na_as (y := nI (iN x2)) (iN_eq (by omega)) ?_
                        refine na_imul hx hb dX3_join_131 ?_
                        refine lv_iload hx hb dX3_join_132 (lv_at hl 5 rfl) ?_
                        refine na_as (y := nI (iN x3)) (iN_eq (by omega)) ?_
                        refine na_iadd hx hb dX3_join_134 ?_
                        refine lv_iload hx hb dX3_join_135 (lv_at hl 6 rfl) ?_
                        refine na_as (y := nI (iN x4)) (iN_eq (by omega)) ?_
                        refine wr_Vi (As := [.int (nI ((2 * (iN x0)) + (iN x1))), .int (nI ((2 * (iN x2)) + (iN x3))), .int (nI (iN x4))]) (rest := []) ⟨hx, hb, hml, hown, hts⟩ (k_X3_link l D q k S (up2 Z 0 0 0) _ ((2 * (iN x0)) + (iN x1)) ((2 * (iN x2)) + (iN x3)) (iN x4) hB hj (by omega)) (cwV 3 hts gX3_join_X3_link rfl rfl rfl (by decide +kernel) ⟨by decide, by decide⟩) hX hP hD hS hA (q0 := 0) rfl rfl rfl hl.1 rfl (Nat.le_of_ble_eq_true rfl) dX3_join_137 ⟨Nat.le_of_ble_eq_true rfl, Nat.le_of_ble_eq_true rfl⟩ (fun r_1 u_1 H locs hw_1 hP hD hS => ?_)
                        obtain ⟨S_1, Z_1⟩ := u_1
                        obtain ⟨e1, e2, e3⟩ := hw_1
                        dsimp only at e2 e3 hP hD
                        rw [e2, e3] at hP hD
                        subst e1
                        have hP : va_P D vwCl (wM q k (addJ S ((2 * (iN x0)) + (iN x1)) ((2 * (iN x2)) + (iN x3)) (iN x4)) (up2 Z 0 0 0)) H := hP
                        have hD : va_D A (wM q k (addJ S ((2 * (iN x0)) + (iN x1)) ((2 * (iN x2)) + (iN x3)) (iN x4)) (up2 Z 0 0 0)) := hD
                        exact W.iret (v := nI (S 0 1 / 2)) hx hb hr (fun t ht hW => ⟨⟨_, ((addJ S ((2 * (iN x0)) + (iN x1)) ((2 * (iN x2)) + (iN x3)) (iN x4)), (up2 Z 0 0 0)), rfl, ⟨fun _ => rfl, (nS_0 (cd2_0 (by unfold okJ isPc; omega) (by omega))).symm, by rw [show cdJ S x0 x1 x2 x3 x4 = 0 from cd2_0 (by unfold okJ isPc; omega) (by omega)]⟩, by rw [ht]; exact hP, hD⟩, hS.F ht⟩) hS.2.2 dX3_join_140
                      · exact absurd h_116 (by decide)
                    · skip
                      refine lv_iconst (v := nI 2) hx hb dX3_join_104 (by decide) ?_
                      refine lv_goto (tgt := 109) hx hb dX3_join_105 (by decide) ?_
                      refine va_put (D := D) (v := .int (nI 2)) (ty := .int) hx hb hts hin_X3 tyX3 tyX3_ok nmX3 hown hX.1 hP hD hS 0 rfl rfl 0 (by decide) hf_59 (fun _ h9 => h9) rfl (by decide +kernel) rfl rfl (Nat.le_of_ble_eq_true rfl) dX3_join_109 (fun H locs hP hD hS => ?_)
                      have hP : va_P D vwCl (wM q k S (up2 Z 0 0 2)) H := sP_M0_0 hP
                      have hD : va_D A (wM q k S (up2 Z 0 0 2)) := sD_M0_0 hD
                      refine lv_aload_n hx hb dX3_join_112 rfl (lv_at hl 1 rfl) ?_
                      refine va_get (D := D) (v := .int (nI 2)) hx hb hts hin_X3 hown hX.1 hP 0 rfl rfl 0 (by decide) hf_59 (fun _ h9 => h9) rfl dX3_join_113 ?_
                      refine na_if_le (tgt := 123) hx hb (by omega) dX3_join_116 (by decide) (fun h_116 => ?_) (fun h_116 => ?_)
                      · exact absurd h_116 (by decide)
                      · skip
                        refine lv_iconst (v := nI 0) hx hb dX3_join_119 (by decide) ?_
                        refine lv_goto (tgt := 140) hx hb dX3_join_120 (by decide) ?_
                        exact W.iret (v := nI 0) hx hb hr (fun t ht hW => ⟨⟨_, (S, (up2 Z 0 0 2)), rfl, (have hc : cdJ S x0 x1 x2 x3 x4 = 2 := cd2_2 (ok := okJ S x0 x1 x2 x3 x4) (full := S 0 1 = 80) (by unfold okJ isPc; omega) (by omega); ⟨fun q => absurd (hc.symm.trans q) (by decide), (nS_n (by rw [hc]; decide)).symm, by rw [hc]⟩), by rw [ht]; exact hP, hD⟩, hS.F ht⟩) hS.2.2 dX3_join_140
                  · exact absurd h_88 (by decide)

set_option maxHeartbeats 4000000 in
set_option maxRecDepth 100000 in
theorem k_X3_lift (l : Launch) (D : va_G) (q : Nat → Nat) (k : Nat → ClassId) (S Z : Nat → Nat → Nat) (sz : Nat) (x0 : Int32) (x1 : Int32) (x2 : Int32) (hB : Bd S) (hj : S 0 1 % 2 = 0) : Met l yX3_lift wsX3_lift ({ frames := 2, cells := 0, slots := 0, locals := 43 } : Room) (va_Pc [.ref (q 0), .int x0, .int x1, .int x2] (wB D k (wM q k S Z) sz)) (va_Qi (fun (r : Int32) (u : (Nat → Nat → Nat) × (Nat → Nat → Nat)) => (cdL S x0 x1 x2 = 0 → r = nI (S 0 1 / 2)) ∧ u.1 = nS (cdL S x0 x1 x2) S (addJ S (2 * iN x0 + 1) (2 * iN x1 + 1) (iN x2)) ∧ u.2 = up2 Z 0 0 (cdL S x0 x1 x2)) (fun u t => wE D (va_A (wM q k S Z) sz) (wM q k u.1 u.2) t) (va_A (wM q k S Z) sz)) 0 0 (va_A (wM q k S Z) sz) := by
  refine Met.ofW (cc := cX3_lift) (maxL := 5) (ret := (some .int)) (by decide) rfl ?_
  intro p e s m args below meth c s₁ B hml hv
  obtain ⟨rfl, hsz, hP, hX, hD0⟩ := hv
  have hx := B.exec
  have hb := B.bytes
  have hr := B.returns
  have hts := atoms_spec (ws := wsX3_lift) B.pre
  have hown : s.vm.findClass RX3 = some m.cls := findClass_of_methodNamed B.named
  have hlocks := B.notSynchronized
  subst hsz
  have hD := hD0.self (sz := s.heap.size)
  generalize hAe : va_A (wM q k S Z) s.heap.size = A at hD ⊢
  have hA : ∀ q : Nat, s.heap.size ≤ q → A q := fun q h => by rw [← hAe]; exact Or.inr h
  have hS : va_S A s.heap s.heap [] := va_S.rf
  have hP : va_P D vwCl (wM q k S Z) s.heap := hP
  have hf_7 := hts (.fieldLink RX3 7 "FloorGraphModel" "level" "[I") (by decide +kernel)
  have hf_59 := hts (.fieldLink RX3 59 "FloorGraphModel" "code" "I") (by decide +kernel)
  have hf_73 := hts (.fieldLink RX3 73 "FloorGraphModel" "joins" "I") (by decide +kernel)
  have hin_X3 : ∀ w ∈ u_ws RX3 TX3 24, w ∈ wsX3_lift := by decide +kernel
  have f0 := hB.1
  have hl := lv_entry ([.ref (q 0), .int x0, .int x1, .int x2]) (n := 5) (Nat.le_of_ble_eq_true rfl)
  rw [lg_entry_eq]
  generalize (lg_sl ([.ref (q 0), .int x0, .int x1, .int x2]) ++ List.replicate (5 - (lg_sl ([.ref (q 0), .int x0, .int x1, .int x2])).length) Slot.unset).toArray = ls at hl ⊢
  have hl : lv_has ls 5 [(0, .ref (q 0)), (1, .int x0), (2, .int x1), (3, .int x2)] := hl
  refine lv_aload_n hx hb dX3_lift_0 rfl (lv_at hl 0 rfl) ?_
  refine lv_iload_n hx hb dX3_lift_1 rfl (lv_at hl 1 rfl) ?_
  refine rd_V (As := [.int x0]) (rest := []) ⟨hx, hb, hml, hown, hts⟩ (k_X3_isPiece l D q k S Z x0 (by omega)) (cwV 1 hts gX3_lift_X3_isPiece rfl rfl rfl (by decide +kernel) ⟨by decide, by decide⟩) hX hP (q0 := 0) rfl rfl rfl hl.1 rfl (Nat.le_of_ble_eq_true rfl) dX3_lift_2 ⟨Nat.zero_le _, Nat.zero_le _⟩ ?_
  refine na_if_eq (tgt := 30) hx hb (bN_lt _) dX3_lift_5 (by decide) (fun h_5 => ?_) (fun h_5 => ?_)
  · skip
    refine lv_iconst (v := nI 0) hx hb dX3_lift_30 (by decide) ?_
    refine lv_istore (lv' := [(4, .int (nI 0)), (0, .ref (q 0)), (1, .int x0), (2, .int x1), (3, .int x2)]) hx hb dX3_lift_31 hl (by decide) rfl (fun ls hl => ?_)
    refine lv_iload hx hb dX3_lift_33 (lv_at hl 0 rfl) ?_
    refine na_if_eq (tgt := 60) hx hb (by omega) dX3_lift_35 (by decide) (fun h_35 => ?_) (fun h_35 => ?_)
    · skip
      refine lv_aload_n hx hb dX3_lift_60 rfl (lv_at hl 1 rfl) ?_
      refine lv_iload hx hb dX3_lift_61 (lv_at hl 0 rfl) ?_
      refine na_if_ne (tgt := 70) hx hb (by omega) dX3_lift_63 (by decide) (fun h_63 => ?_) (fun h_63 => ?_)
      · exact absurd h_63 (by decide)
      · skip
        refine lv_iconst (v := nI 1) hx hb dX3_lift_66 (by decide) ?_
        refine lv_goto (tgt := 84) hx hb dX3_lift_67 (by decide) ?_
        refine va_put (D := D) (v := .int (nI 1)) (ty := .int) hx hb hts hin_X3 tyX3 tyX3_ok nmX3 hown hX.1 hP hD hS 0 rfl rfl 0 (by decide) hf_59 (fun _ h9 => h9) rfl (by decide +kernel) rfl rfl (Nat.le_of_ble_eq_true rfl) dX3_lift_84 (fun H locs hP hD hS => ?_)
        have hP : va_P D vwCl (wM q k S (up2 Z 0 0 1)) H := sP_M0_0 hP
        have hD : va_D A (wM q k S (up2 Z 0 0 1)) := sD_M0_0 hD
        refine lv_aload_n hx hb dX3_lift_87 rfl (lv_at hl 1 rfl) ?_
        refine va_get (D := D) (v := .int (nI 1)) hx hb hts hin_X3 hown hX.1 hP 0 rfl rfl 0 (by decide) hf_59 (fun _ h9 => h9) rfl dX3_lift_88 ?_
        refine na_if_le (tgt := 98) hx hb (by omega) dX3_lift_91 (by decide) (fun h_91 => ?_) (fun h_91 => ?_)
        · exact absurd h_91 (by decide)
        · skip
          refine lv_iconst (v := nI 0) hx hb dX3_lift_94 (by decide) ?_
          refine lv_goto (tgt := 113) hx hb dX3_lift_95 (by decide) ?_
          exact W.iret (v := nI 0) hx hb hr (fun t ht hW => ⟨⟨_, (S, (up2 Z 0 0 1)), rfl, (have hc : cdL S x0 x1 x2 = 1 := cd2_1 (ok := okL S x0 x1 x2) (fun q => by unfold okL isPc at q; first | (have z := isp_f h_5; omega) | (have z := isp_f h_13; omega) | (have z := in_f (by decide) (by decide) h_23; omega) | (have z := h_50; omega)); ⟨fun q => absurd (hc.symm.trans q) (by decide), (nS_n (by rw [hc]; decide)).symm, by rw [hc]⟩), by rw [ht]; exact hP, hD⟩, hS.F ht⟩) hS.2.2 dX3_lift_113
    · exact absurd h_35 (by decide)
  · skip
    refine lv_aload_n hx hb dX3_lift_8 rfl (lv_at hl 0 rfl) ?_
    refine lv_iload_n hx hb dX3_lift_9 rfl (lv_at hl 2 rfl) ?_
    refine rd_V (As := [.int x1]) (rest := []) ⟨hx, hb, hml, hown, hts⟩ (k_X3_isPiece l D q k S Z x1 (by omega)) (cwV 1 hts gX3_lift_X3_isPiece rfl rfl rfl (by decide +kernel) ⟨by decide, by decide⟩) hX hP (q0 := 0) rfl rfl rfl hl.1 rfl (Nat.le_of_ble_eq_true rfl) dX3_lift_10 ⟨Nat.zero_le _, Nat.zero_le _⟩ ?_
    refine na_if_eq (tgt := 30) hx hb (bN_lt _) dX3_lift_13 (by decide) (fun h_13 => ?_) (fun h_13 => ?_)
    · skip
      refine lv_iconst (v := nI 0) hx hb dX3_lift_30 (by decide) ?_
      refine lv_istore (lv' := [(4, .int (nI 0)), (0, .ref (q 0)), (1, .int x0), (2, .int x1), (3, .int x2)]) hx hb dX3_lift_31 hl (by decide) rfl (fun ls hl => ?_)
      refine lv_iload hx hb dX3_lift_33 (lv_at hl 0 rfl) ?_
      refine na_if_eq (tgt := 60) hx hb (by omega) dX3_lift_35 (by decide) (fun h_35 => ?_) (fun h_35 => ?_)
      · skip
        refine lv_aload_n hx hb dX3_lift_60 rfl (lv_at hl 1 rfl) ?_
        refine lv_iload hx hb dX3_lift_61 (lv_at hl 0 rfl) ?_
        refine na_if_ne (tgt := 70) hx hb (by omega) dX3_lift_63 (by decide) (fun h_63 => ?_) (fun h_63 => ?_)
        · exact absurd h_63 (by decide)
        · skip
          refine lv_iconst (v := nI 1) hx hb dX3_lift_66 (by decide) ?_
          refine lv_goto (tgt := 84) hx hb dX3_lift_67 (by decide) ?_
          refine va_put (D := D) (v := .int (nI 1)) (ty := .int) hx hb hts hin_X3 tyX3 tyX3_ok nmX3 hown hX.1 hP hD hS 0 rfl rfl 0 (by decide) hf_59 (fun _ h9 => h9) rfl (by decide +kernel) rfl rfl (Nat.le_of_ble_eq_true rfl) dX3_lift_84 (fun H locs hP hD hS => ?_)
          have hP : va_P D vwCl (wM q k S (up2 Z 0 0 1)) H := sP_M0_0 hP
          have hD : va_D A (wM q k S (up2 Z 0 0 1)) := sD_M0_0 hD
          refine lv_aload_n hx hb dX3_lift_87 rfl (lv_at hl 1 rfl) ?_
          refine va_get (D := D) (v := .int (nI 1)) hx hb hts hin_X3 hown hX.1 hP 0 rfl rfl 0 (by decide) hf_59 (fun _ h9 => h9) rfl dX3_lift_88 ?_
          refine na_if_le (tgt := 98) hx hb (by omega) dX3_lift_91 (by decide) (fun h_91 => ?_) (fun h_91 => ?_)
          · exact absurd h_91 (by decide)
          · skip
            refine lv_iconst (v := nI 0) hx hb dX3_lift_94 (by decide) ?_
            refine lv_goto (tgt := 113) hx hb dX3_lift_95 (by decide) ?_
            exact W.iret (v := nI 0) hx hb hr (fun t ht hW => ⟨⟨_, (S, (up2 Z 0 0 1)), rfl, (have hc : cdL S x0 x1 x2 = 1 := cd2_1 (ok := okL S x0 x1 x2) (fun q => by unfold okL isPc at q; first | (have z := isp_f h_5; omega) | (have z := isp_f h_13; omega) | (have z := in_f (by decide) (by decide) h_23; omega) | (have z := h_50; omega)); ⟨fun q => absurd (hc.symm.trans q) (by decide), (nS_n (by rw [hc]; decide)).symm, by rw [hc]⟩), by rw [ht]; exact hP, hD⟩, hS.F ht⟩) hS.2.2 dX3_lift_113
      · exact absurd h_35 (by decide)
    · skip
      refine lv_iload_n hx hb dX3_lift_16 rfl (lv_at hl 3 rfl) ?_
      refine lv_iconst (v := nI 0) hx hb dX3_lift_17 (by decide) ?_
      refine lv_bipush (v := nI 100) hx hb dX3_lift_18 (by decide) ?_
      refine rd_S (As := [.int x2, .int (nI 0), .int (nI 100)]) (rest := []) ⟨hx, hb, hml, hown, hts⟩ (k_X3_in l x2 (nI 0) (nI 100) ) (va_cwS 3 hts gX3_lift_X3_in rfl rfl rfl (by decide +kernel) ⟨by decide, by decide⟩) rfl hl.1 rfl (Nat.le_of_ble_eq_true rfl) dX3_lift_20 ⟨Nat.zero_le _, Nat.zero_le _⟩ ?_
      refine na_if_eq (tgt := 30) hx hb (bN_lt _) dX3_lift_23 (by decide) (fun h_23 => ?_) (fun h_23 => ?_)
      · skip
        refine lv_iconst (v := nI 0) hx hb dX3_lift_30 (by decide) ?_
        refine lv_istore (lv' := [(4, .int (nI 0)), (0, .ref (q 0)), (1, .int x0), (2, .int x1), (3, .int x2)]) hx hb dX3_lift_31 hl (by decide) rfl (fun ls hl => ?_)
        refine lv_iload hx hb dX3_lift_33 (lv_at hl 0 rfl) ?_
        refine na_if_eq (tgt := 60) hx hb (by omega) dX3_lift_35 (by decide) (fun h_35 => ?_) (fun h_35 => ?_)
        · skip
          refine lv_aload_n hx hb dX3_lift_60 rfl (lv_at hl 1 rfl) ?_
          refine lv_iload hx hb dX3_lift_61 (lv_at hl 0 rfl) ?_
          refine na_if_ne (tgt := 70) hx hb (by omega) dX3_lift_63 (by decide) (fun h_63 => ?_) (fun h_63 => ?_)
          · exact absurd h_63 (by decide)
          · skip
            refine lv_iconst (v := nI 1) hx hb dX3_lift_66 (by decide) ?_
            refine lv_goto (tgt := 84) hx hb dX3_lift_67 (by decide) ?_
            refine va_put (D := D) (v := .int (nI 1)) (ty := .int) hx hb hts hin_X3 tyX3 tyX3_ok nmX3 hown hX.1 hP hD hS 0 rfl rfl 0 (by decide) hf_59 (fun _ h9 => h9) rfl (by decide +kernel) rfl rfl (Nat.le_of_ble_eq_true rfl) dX3_lift_84 (fun H locs hP hD hS => ?_)
            have hP : va_P D vwCl (wM q k S (up2 Z 0 0 1)) H := sP_M0_0 hP
            have hD : va_D A (wM q k S (up2 Z 0 0 1)) := sD_M0_0 hD
            refine lv_aload_n hx hb dX3_lift_87 rfl (lv_at hl 1 rfl) ?_
            refine va_get (D := D) (v := .int (nI 1)) hx hb hts hin_X3 hown hX.1 hP 0 rfl rfl 0 (by decide) hf_59 (fun _ h9 => h9) rfl dX3_lift_88 ?_
            refine na_if_le (tgt := 98) hx hb (by omega) dX3_lift_91 (by decide) (fun h_91 => ?_) (fun h_91 => ?_)
            · exact absurd h_91 (by decide)
            · skip
              refine lv_iconst (v := nI 0) hx hb dX3_lift_94 (by decide) ?_
              refine lv_goto (tgt := 113) hx hb dX3_lift_95 (by decide) ?_
              exact W.iret (v := nI 0) hx hb hr (fun t ht hW => ⟨⟨_, (S, (up2 Z 0 0 1)), rfl, (have hc : cdL S x0 x1 x2 = 1 := cd2_1 (ok := okL S x0 x1 x2) (fun q => by unfold okL isPc at q; first | (have z := isp_f h_5; omega) | (have z := isp_f h_13; omega) | (have z := in_f (by decide) (by decide) h_23; omega) | (have z := h_50; omega)); ⟨fun q => absurd (hc.symm.trans q) (by decide), (nS_n (by rw [hc]; decide)).symm, by rw [hc]⟩), by rw [ht]; exact hP, hD⟩, hS.F ht⟩) hS.2.2 dX3_lift_113
        · exact absurd h_35 (by decide)
      · skip
        refine lv_iconst (v := nI 1) hx hb dX3_lift_26 (by decide) ?_
        refine lv_goto (tgt := 31) hx hb dX3_lift_27 (by decide) ?_
        refine lv_istore (lv' := [(4, .int (nI 1)), (0, .ref (q 0)), (1, .int x0), (2, .int x1), (3, .int x2)]) hx hb dX3_lift_31 hl (by decide) rfl (fun ls hl => ?_)
        refine lv_iload hx hb dX3_lift_33 (lv_at hl 0 rfl) ?_
        refine na_if_eq (tgt := 60) hx hb (by omega) dX3_lift_35 (by decide) (fun h_35 => ?_) (fun h_35 => ?_)
        · exact absurd h_35 (by decide)
        · skip
          have i0 := isp_t h_5
          have i1 := isp_t h_13
          have i2 := in_t (by decide) (by decide) h_23
          have j0 := iN_toInt (x := x0) (by omega)
          have j1 := iN_toInt (x := x1) (by omega)
          have j2 := iN_toInt (x := x2) (by omega)
          have fl0 := (hB.2.1 (iN x0)).1
          have fl2 := (hB.2.1 (iN x1)).1
          refine lv_aload_n hx hb dX3_lift_38 rfl (lv_at hl 1 rfl) ?_
          refine va_get (D := D) (v := .ref (q 1)) hx hb hts hin_X3 hown hX.1 hP 0 rfl rfl 2 (by decide) hf_7 (fun _ h9 => h9) rfl dX3_lift_39 ?_
          refine lv_iload_n hx hb dX3_lift_42 rfl (lv_at hl 2 rfl) ?_
          refine na_as (y := nI (iN x0)) (iN_eq (by omega)) ?_
          refine na_iald hx hb hX.1 hP 1 0 rfl rfl (by omega) (by decide) dX3_lift_43 ?_
          refine lv_aload_n hx hb dX3_lift_44 rfl (lv_at hl 1 rfl) ?_
          refine va_get (D := D) (v := .ref (q 1)) hx hb hts hin_X3 hown hX.1 hP 0 rfl rfl 2 (by decide) hf_7 (fun _ h9 => h9) rfl dX3_lift_45 ?_
          refine lv_iload_n hx hb dX3_lift_48 rfl (lv_at hl 3 rfl) ?_
          refine na_as (y := nI (iN x1)) (iN_eq (by omega)) ?_
          refine na_iald hx hb hX.1 hP 1 0 rfl rfl (by omega) (by decide) dX3_lift_49 ?_
          refine na_icmp_eq (tgt := 57) hx hb (by omega) (by omega) dX3_lift_50 (by decide) (fun h_50 => ?_) (fun h_50 => ?_)
          · skip
            refine lv_iconst (v := nI 0) hx hb dX3_lift_57 (by decide) ?_
            refine lv_istore (lv' := [(4, .int (nI 0)), (0, .ref (q 0)), (1, .int x0), (2, .int x1), (3, .int x2)]) hx hb dX3_lift_58 hl (by decide) rfl (fun ls hl => ?_)
            refine lv_aload_n hx hb dX3_lift_60 rfl (lv_at hl 1 rfl) ?_
            refine lv_iload hx hb dX3_lift_61 (lv_at hl 0 rfl) ?_
            refine na_if_ne (tgt := 70) hx hb (by omega) dX3_lift_63 (by decide) (fun h_63 => ?_) (fun h_63 => ?_)
            · exact absurd h_63 (by decide)
            · skip
              refine lv_iconst (v := nI 1) hx hb dX3_lift_66 (by decide) ?_
              refine lv_goto (tgt := 84) hx hb dX3_lift_67 (by decide) ?_
              refine va_put (D := D) (v := .int (nI 1)) (ty := .int) hx hb hts hin_X3 tyX3 tyX3_ok nmX3 hown hX.1 hP hD hS 0 rfl rfl 0 (by decide) hf_59 (fun _ h9 => h9) rfl (by decide +kernel) rfl rfl (Nat.le_of_ble_eq_true rfl) dX3_lift_84 (fun H locs hP hD hS => ?_)
              have hP : va_P D vwCl (wM q k S (up2 Z 0 0 1)) H := sP_M0_0 hP
              have hD : va_D A (wM q k S (up2 Z 0 0 1)) := sD_M0_0 hD
              refine lv_aload_n hx hb dX3_lift_87 rfl (lv_at hl 1 rfl) ?_
              refine va_get (D := D) (v := .int (nI 1)) hx hb hts hin_X3 hown hX.1 hP 0 rfl rfl 0 (by decide) hf_59 (fun _ h9 => h9) rfl dX3_lift_88 ?_
              refine na_if_le (tgt := 98) hx hb (by omega) dX3_lift_91 (by decide) (fun h_91 => ?_) (fun h_91 => ?_)
              · exact absurd h_91 (by decide)
              · skip
                refine lv_iconst (v := nI 0) hx hb dX3_lift_94 (by decide) ?_
                refine lv_goto (tgt := 113) hx hb dX3_lift_95 (by decide) ?_
                exact W.iret (v := nI 0) hx hb hr (fun t ht hW => ⟨⟨_, (S, (up2 Z 0 0 1)), rfl, (have hc : cdL S x0 x1 x2 = 1 := cd2_1 (ok := okL S x0 x1 x2) (fun q => by unfold okL isPc at q; first | (have z := isp_f h_5; omega) | (have z := isp_f h_13; omega) | (have z := in_f (by decide) (by decide) h_23; omega) | (have z := h_50; omega)); ⟨fun q => absurd (hc.symm.trans q) (by decide), (nS_n (by rw [hc]; decide)).symm, by rw [hc]⟩), by rw [ht]; exact hP, hD⟩, hS.F ht⟩) hS.2.2 dX3_lift_113
          · skip
            refine lv_iconst (v := nI 1) hx hb dX3_lift_53 (by decide) ?_
            refine lv_goto (tgt := 58) hx hb dX3_lift_54 (by decide) ?_
            refine lv_istore (lv' := [(4, .int (nI 1)), (0, .ref (q 0)), (1, .int x0), (2, .int x1), (3, .int x2)]) hx hb dX3_lift_58 hl (by decide) rfl (fun ls hl => ?_)
            refine lv_aload_n hx hb dX3_lift_60 rfl (lv_at hl 1 rfl) ?_
            refine lv_iload hx hb dX3_lift_61 (lv_at hl 0 rfl) ?_
            refine na_if_ne (tgt := 70) hx hb (by omega) dX3_lift_63 (by decide) (fun h_63 => ?_) (fun h_63 => ?_)
            · skip
              refine lv_aload_n hx hb dX3_lift_70 rfl (lv_at hl 1 rfl) ?_
              refine va_get (D := D) (v := .int (nI ((S 0 1) / 2))) hx hb hts hin_X3 hown hX.1 hP 0 rfl rfl 8 (by decide) hf_73 (fun _ h9 => h9) rfl dX3_lift_71 ?_
              refine lv_bipush (v := nI 40) hx hb dX3_lift_74 (by decide) ?_
              refine na_icmp_ne (tgt := 83) hx hb (by omega) (by omega) dX3_lift_76 (by decide) (fun h_76 => ?_) (fun h_76 => ?_)
              · skip
                refine lv_iconst (v := nI 0) hx hb dX3_lift_83 (by decide) ?_
                refine va_put (D := D) (v := .int (nI 0)) (ty := .int) hx hb hts hin_X3 tyX3 tyX3_ok nmX3 hown hX.1 hP hD hS 0 rfl rfl 0 (by decide) hf_59 (fun _ h9 => h9) rfl (by decide +kernel) rfl rfl (Nat.le_of_ble_eq_true rfl) dX3_lift_84 (fun H locs hP hD hS => ?_)
                have hP : va_P D vwCl (wM q k S (up2 Z 0 0 0)) H := sP_M0_0 hP
                have hD : va_D A (wM q k S (up2 Z 0 0 0)) := sD_M0_0 hD
                refine lv_aload_n hx hb dX3_lift_87 rfl (lv_at hl 1 rfl) ?_
                refine va_get (D := D) (v := .int (nI 0)) hx hb hts hin_X3 hown hX.1 hP 0 rfl rfl 0 (by decide) hf_59 (fun _ h9 => h9) rfl dX3_lift_88 ?_
                refine na_if_le (tgt := 98) hx hb (by omega) dX3_lift_91 (by decide) (fun h_91 => ?_) (fun h_91 => ?_)
                · skip
                  refine lv_aload_n hx hb dX3_lift_98 rfl (lv_at hl 1 rfl) ?_
                  refine lv_iconst (v := nI 2) hx hb dX3_lift_99 (by decide) ?_
                  refine lv_iload_n hx hb dX3_lift_100 rfl (lv_at hl 2 rfl) ?_
                  refine na_as (y := nI (iN x0)) (iN_eq (by omega)) ?_
                  refine na_imul hx hb dX3_lift_101 ?_
                  refine lv_iconst (v := nI 1) hx hb dX3_lift_102 (by decide) ?_
                  refine na_iadd hx hb dX3_lift_103 ?_
                  refine lv_iconst (v := nI 2) hx hb dX3_lift_104 (by decide) ?_
                  refine lv_iload_n hx hb dX3_lift_105 rfl (lv_at hl 3 rfl) ?_
                  refine na_as (y := nI (iN x1)) (iN_eq (by omega)) ?_
                  refine na_imul hx hb dX3_lift_106 ?_
                  refine lv_iconst (v := nI 1) hx hb dX3_lift_107 (by decide) ?_
                  refine na_iadd hx hb dX3_lift_108 ?_
                  refine lv_iload_n hx hb dX3_lift_109 rfl (lv_at hl 4 rfl) ?_
                  refine na_as (y := nI (iN x2)) (iN_eq (by omega)) ?_
                  refine wr_Vi (As := [.int (nI ((2 * (iN x0)) + 1)), .int (nI ((2 * (iN x1)) + 1)), .int (nI (iN x2))]) (rest := []) ⟨hx, hb, hml, hown, hts⟩ (k_X3_link l D q k S (up2 Z 0 0 0) _ ((2 * (iN x0)) + 1) ((2 * (iN x1)) + 1) (iN x2) hB hj (by omega)) (cwV 3 hts gX3_lift_X3_link rfl rfl rfl (by decide +kernel) ⟨by decide, by decide⟩) hX hP hD hS hA (q0 := 0) rfl rfl rfl hl.1 rfl (Nat.le_of_ble_eq_true rfl) dX3_lift_110 ⟨Nat.le_of_ble_eq_true rfl, Nat.le_of_ble_eq_true rfl⟩ (fun r_1 u_1 H locs hw_1 hP hD hS => ?_)
                  obtain ⟨S_1, Z_1⟩ := u_1
                  obtain ⟨e1, e2, e3⟩ := hw_1
                  dsimp only at e2 e3 hP hD
                  rw [e2, e3] at hP hD
                  subst e1
                  have hP : va_P D vwCl (wM q k (addJ S ((2 * (iN x0)) + 1) ((2 * (iN x1)) + 1) (iN x2)) (up2 Z 0 0 0)) H := hP
                  have hD : va_D A (wM q k (addJ S ((2 * (iN x0)) + 1) ((2 * (iN x1)) + 1) (iN x2)) (up2 Z 0 0 0)) := hD
                  exact W.iret (v := nI (S 0 1 / 2)) hx hb hr (fun t ht hW => ⟨⟨_, ((addJ S ((2 * (iN x0)) + 1) ((2 * (iN x1)) + 1) (iN x2)), (up2 Z 0 0 0)), rfl, ⟨fun _ => rfl, (nS_0 (cd2_0 (by unfold okL isPc; omega) (by omega))).symm, by rw [show cdL S x0 x1 x2 = 0 from cd2_0 (by unfold okL isPc; omega) (by omega)]⟩, by rw [ht]; exact hP, hD⟩, hS.F ht⟩) hS.2.2 dX3_lift_113
                · exact absurd h_91 (by decide)
              · skip
                refine lv_iconst (v := nI 2) hx hb dX3_lift_79 (by decide) ?_
                refine lv_goto (tgt := 84) hx hb dX3_lift_80 (by decide) ?_
                refine va_put (D := D) (v := .int (nI 2)) (ty := .int) hx hb hts hin_X3 tyX3 tyX3_ok nmX3 hown hX.1 hP hD hS 0 rfl rfl 0 (by decide) hf_59 (fun _ h9 => h9) rfl (by decide +kernel) rfl rfl (Nat.le_of_ble_eq_true rfl) dX3_lift_84 (fun H locs hP hD hS => ?_)
                have hP : va_P D vwCl (wM q k S (up2 Z 0 0 2)) H := sP_M0_0 hP
                have hD : va_D A (wM q k S (up2 Z 0 0 2)) := sD_M0_0 hD
                refine lv_aload_n hx hb dX3_lift_87 rfl (lv_at hl 1 rfl) ?_
                refine va_get (D := D) (v := .int (nI 2)) hx hb hts hin_X3 hown hX.1 hP 0 rfl rfl 0 (by decide) hf_59 (fun _ h9 => h9) rfl dX3_lift_88 ?_
                refine na_if_le (tgt := 98) hx hb (by omega) dX3_lift_91 (by decide) (fun h_91 => ?_) (fun h_91 => ?_)
                · exact absurd h_91 (by decide)
                · skip
                  refine lv_iconst (v := nI 0) hx hb dX3_lift_94 (by decide) ?_
                  refine lv_goto (tgt := 113) hx hb dX3_lift_95 (by decide) ?_
                  exact W.iret (v := nI 0) hx hb hr (fun t ht hW => ⟨⟨_, (S, (up2 Z 0 0 2)), rfl, (have hc : cdL S x0 x1 x2 = 2 := cd2_2 (ok := okL S x0 x1 x2) (full := S 0 1 = 80) (by unfold okL isPc; omega) (by omega); ⟨fun q => absurd (hc.symm.trans q) (by decide), (nS_n (by rw [hc]; decide)).symm, by rw [hc]⟩), by rw [ht]; exact hP, hD⟩, hS.F ht⟩) hS.2.2 dX3_lift_113
            · exact absurd h_63 (by decide)
