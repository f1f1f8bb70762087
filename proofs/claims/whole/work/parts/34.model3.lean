set_option maxHeartbeats 4000000 in
set_option maxRecDepth 100000 in
theorem k_X3_piece (l : Launch) (D : va_G) (q : Nat → Nat) (k : Nat → ClassId) (S Z : Nat → Nat → Nat) (sz : Nat) (x0 : Int32) (x1 : Int32) (b : Bool) (hB : Bd S) : Met l yX3_piece wsX3_piece ({ frames := 1, cells := 0, slots := 0, locals := 22 } : Room) (va_Pc [.ref (q 0), .int x0, .int x1, .int (nI (bN b))] (wB D k (wM q k S Z) sz)) (va_Qi (fun (r : Int32) (u : (Nat → Nat → Nat) × (Nat → Nat → Nat)) => (cdP S x0 x1 = 0 → r = nI (S 0 0)) ∧ u.1 = nS (cdP S x0 x1) S (addP S (iN x0) (iN x1) (bN b)) ∧ u.2 = up2 Z 0 0 (cdP S x0 x1)) (fun u t => wE D (va_A (wM q k S Z) sz) (wM q k u.1 u.2) t) (va_A (wM q k S Z) sz)) 0 0 (va_A (wM q k S Z) sz) := by
  refine Met.ofW (cc := cX3_piece) (maxL := 4) (ret := (some .int)) (by decide) rfl ?_
  intro p e s m args below meth c s₁ B hml hv
  obtain ⟨rfl, hsz, hP, hX, hD0⟩ := hv
  have hx := B.exec
  have hb := B.bytes
  have hr := B.returns
  have hts := atoms_spec (ws := wsX3_piece) B.pre
  have hown : s.vm.findClass RX3 = some m.cls := findClass_of_methodNamed B.named
  have hlocks := B.notSynchronized
  subst hsz
  have hD := hD0.self (sz := s.heap.size)
  generalize hAe : va_A (wM q k S Z) s.heap.size = A at hD ⊢
  have hA : ∀ q : Nat, s.heap.size ≤ q → A q := fun q h => by rw [← hAe]; exact Or.inr h
  have hS : va_S A s.heap s.heap [] := va_S.rf
  have hP : va_P D vwCl (wM q k S Z) s.heap := hP
  have hf_7 := hts (.fieldLink RX3 7 "FloorGraphModel" "level" "[I") (by decide +kernel)
  have hf_13 := hts (.fieldLink RX3 13 "FloorGraphModel" "length" "[I") (by decide +kernel)
  have hf_16 := hts (.fieldLink RX3 16 "FloorGraphModel" "wide" "[I") (by decide +kernel)
  have hf_19 := hts (.fieldLink RX3 19 "FloorGraphModel" "both" "[Z") (by decide +kernel)
  have hf_59 := hts (.fieldLink RX3 59 "FloorGraphModel" "code" "I") (by decide +kernel)
  have hf_63 := hts (.fieldLink RX3 63 "FloorGraphModel" "pieces" "I") (by decide +kernel)
  have hf_70 := hts (.fieldLink RX3 70 "FloorGraphModel" "changes" "I") (by decide +kernel)
  have hin_X3 : ∀ w ∈ u_ws RX3 TX3 24, w ∈ wsX3_piece := by decide +kernel
  have f0 := hB.1
  have hl := lv_entry ([.ref (q 0), .int x0, .int x1, .int (nI (bN b))]) (n := 4) (Nat.le_of_ble_eq_true rfl)
  rw [lg_entry_eq]
  generalize (lg_sl ([.ref (q 0), .int x0, .int x1, .int (nI (bN b))]) ++ List.replicate (4 - (lg_sl ([.ref (q 0), .int x0, .int x1, .int (nI (bN b))])).length) Slot.unset).toArray = ls at hl ⊢
  have hl : lv_has ls 4 [(0, .ref (q 0)), (1, .int x0), (2, .int x1), (3, .int (nI (bN b)))] := hl
  refine lv_aload_n hx hb dX3_piece_0 rfl (lv_at hl 0 rfl) ?_
  refine lv_iload_n hx hb dX3_piece_1 rfl (lv_at hl 1 rfl) ?_
  refine lv_iconst (v := nI 0) hx hb dX3_piece_2 (by decide) ?_
  refine lv_bipush (v := nI 9) hx hb dX3_piece_3 (by decide) ?_
  refine rd_S (As := [.int x0, .int (nI 0), .int (nI 9)]) (rest := [.ref (q 0)]) ⟨hx, hb, hml, hown, hts⟩ (k_X3_in l x0 (nI 0) (nI 9) ) (va_cwS 3 hts gX3_piece_X3_in rfl rfl rfl (by decide +kernel) ⟨by decide, by decide⟩) rfl hl.1 rfl (Nat.le_of_ble_eq_true rfl) dX3_piece_5 ⟨Nat.zero_le _, Nat.zero_le _⟩ ?_
  refine na_if_eq (tgt := 22) hx hb (bN_lt _) dX3_piece_8 (by decide) (fun h_8 => ?_) (fun h_8 => ?_)
  · skip
    refine lv_iconst (v := nI 1) hx hb dX3_piece_22 (by decide) ?_
    refine lv_goto (tgt := 40) hx hb dX3_piece_23 (by decide) ?_
    refine va_put (D := D) (v := .int (nI 1)) (ty := .int) hx hb hts hin_X3 tyX3 tyX3_ok nmX3 hown hX.1 hP hD hS 0 rfl rfl 0 (by decide) hf_59 (fun _ h9 => h9) rfl (by decide +kernel) rfl rfl (Nat.le_of_ble_eq_true rfl) dX3_piece_40 (fun H locs hP hD hS => ?_)
    have hP : va_P D vwCl (wM q k S (up2 Z 0 0 1)) H := sP_M0_0 hP
    have hD : va_D A (wM q k S (up2 Z 0 0 1)) := sD_M0_0 hD
    refine lv_aload_n hx hb dX3_piece_43 rfl (lv_at hl 0 rfl) ?_
    refine va_get (D := D) (v := .int (nI 1)) hx hb hts hin_X3 hown hX.1 hP 0 rfl rfl 0 (by decide) hf_59 (fun _ h9 => h9) rfl dX3_piece_44 ?_
    refine na_if_le (tgt := 52) hx hb (by omega) dX3_piece_47 (by decide) (fun h_47 => ?_) (fun h_47 => ?_)
    · exact absurd h_47 (by decide)
    · skip
      refine lv_iconst (v := nI 0) hx hb dX3_piece_50 (by decide) ?_
      exact W.iret (v := nI 0) hx hb hr (fun t ht hW => ⟨⟨_, (S, (up2 Z 0 0 1)), rfl, (have hc : cdP S x0 x1 = 1 := cd2_1 (ok := okP x0 x1) (full := S 0 0 = 20) (fun q => by have q2 := q; unfold okP at q2; first | (have z := in_f (by decide) (by decide) h_8; omega) | (have z := in_f (by decide) (by decide) h_19; omega)); ⟨fun q => absurd (hc.symm.trans q) (by decide), (nS_n (by rw [hc]; decide)).symm, by rw [hc]⟩), by rw [ht]; exact hP, hD⟩, hS.F ht⟩) hS.2.2 dX3_piece_51
  · skip
    refine lv_iload_n hx hb dX3_piece_11 rfl (lv_at hl 2 rfl) ?_
    refine lv_iconst (v := nI 1) hx hb dX3_piece_12 (by decide) ?_
    refine lv_sipush (v := nI 1000) hx hb dX3_piece_13 (by decide) ?_
    refine rd_S (As := [.int x1, .int (nI 1), .int (nI 1000)]) (rest := [.ref (q 0)]) ⟨hx, hb, hml, hown, hts⟩ (k_X3_in l x1 (nI 1) (nI 1000) ) (va_cwS 3 hts gX3_piece_X3_in rfl rfl rfl (by decide +kernel) ⟨by decide, by decide⟩) rfl hl.1 rfl (Nat.le_of_ble_eq_true rfl) dX3_piece_16 ⟨Nat.zero_le _, Nat.zero_le _⟩ ?_
    refine na_if_ne (tgt := 26) hx hb (bN_lt _) dX3_piece_19 (by decide) (fun h_19 => ?_) (fun h_19 => ?_)
    · skip
      refine lv_aload_n hx hb dX3_piece_26 rfl (lv_at hl 0 rfl) ?_
      refine va_get (D := D) (v := .int (nI (S 0 0))) hx hb hts hin_X3 hown hX.1 hP 0 rfl rfl 1 (by decide) hf_63 (fun _ h9 => h9) rfl dX3_piece_27 ?_
      refine lv_bipush (v := nI 20) hx hb dX3_piece_30 (by decide) ?_
      refine na_icmp_ne (tgt := 39) hx hb (by omega) (by omega) dX3_piece_32 (by decide) (fun h_32 => ?_) (fun h_32 => ?_)
      · skip
        refine lv_iconst (v := nI 0) hx hb dX3_piece_39 (by decide) ?_
        refine va_put (D := D) (v := .int (nI 0)) (ty := .int) hx hb hts hin_X3 tyX3 tyX3_ok nmX3 hown hX.1 hP hD hS 0 rfl rfl 0 (by decide) hf_59 (fun _ h9 => h9) rfl (by decide +kernel) rfl rfl (Nat.le_of_ble_eq_true rfl) dX3_piece_40 (fun H locs hP hD hS => ?_)
        have hP : va_P D vwCl (wM q k S (up2 Z 0 0 0)) H := sP_M0_0 hP
        have hD : va_D A (wM q k S (up2 Z 0 0 0)) := sD_M0_0 hD
        refine lv_aload_n hx hb dX3_piece_43 rfl (lv_at hl 0 rfl) ?_
        refine va_get (D := D) (v := .int (nI 0)) hx hb hts hin_X3 hown hX.1 hP 0 rfl rfl 0 (by decide) hf_59 (fun _ h9 => h9) rfl dX3_piece_44 ?_
        refine na_if_le (tgt := 52) hx hb (by omega) dX3_piece_47 (by decide) (fun h_47 => ?_) (fun h_47 => ?_)
        · skip
          have i0 := in_t (by decide) (by decide) h_8
          have i1 := in_t (by decide) (by decide) h_19
          have j0 := iN_toInt (x := x0) (by omega)
          have j1 := iN_toInt (x := x1) (by omega)
          refine lv_aload_n hx hb dX3_piece_52 rfl (lv_at hl 0 rfl) ?_
          refine va_get (D := D) (v := .ref (q 1)) hx hb hts hin_X3 hown hX.1 hP 0 rfl rfl 2 (by decide) hf_7 (fun _ h9 => h9) rfl dX3_piece_53 ?_
          refine lv_aload_n hx hb dX3_piece_56 rfl (lv_at hl 0 rfl) ?_
          refine va_get (D := D) (v := .int (nI (S 0 0))) hx hb hts hin_X3 hown hX.1 hP 0 rfl rfl 1 (by decide) hf_63 (fun _ h9 => h9) rfl dX3_piece_57 ?_
          refine lv_iload_n hx hb dX3_piece_60 rfl (lv_at hl 1 rfl) ?_
          refine na_as (y := nI (iN x0)) (iN_eq (by omega)) ?_
          refine na_iast hx hb hX.1 hP hD hS 1 0 rfl rfl (by omega) (by decide) (upd_enc nI _ _ _) dX3_piece_61 (fun H locs hP hD hS => ?_)
          have hP : va_P D vwCl (wM q k (up2 S 1 (S 0 0) (iN x0)) (up2 Z 0 0 0)) H := sP_M1 hP
          have hD : va_D A (wM q k (up2 S 1 (S 0 0) (iN x0)) (up2 Z 0 0 0)) := sD_M1 hD
          refine lv_aload_n hx hb dX3_piece_62 rfl (lv_at hl 0 rfl) ?_
          refine va_get (D := D) (v := .ref (q 2)) hx hb hts hin_X3 hown hX.1 hP 0 rfl rfl 3 (by decide) hf_13 (fun _ h9 => h9) rfl dX3_piece_63 ?_
          refine lv_aload_n hx hb dX3_piece_66 rfl (lv_at hl 0 rfl) ?_
          refine va_get (D := D) (v := .int (nI (S 0 0))) hx hb hts hin_X3 hown hX.1 hP 0 rfl rfl 1 (by decide) hf_63 (fun _ h9 => h9) rfl dX3_piece_67 ?_
          refine lv_iload_n hx hb dX3_piece_70 rfl (lv_at hl 2 rfl) ?_
          refine na_as (y := nI (iN x1)) (iN_eq (by omega)) ?_
          refine na_iast hx hb hX.1 hP hD hS 2 0 rfl rfl (by omega) (by decide) (upd_enc nI _ _ _) dX3_piece_71 (fun H locs hP hD hS => ?_)
          have hP : va_P D vwCl (wM q k (up2 (up2 S 1 (S 0 0) (iN x0)) 2 (S 0 0) (iN x1)) (up2 Z 0 0 0)) H := sP_M2 hP
          have hD : va_D A (wM q k (up2 (up2 S 1 (S 0 0) (iN x0)) 2 (S 0 0) (iN x1)) (up2 Z 0 0 0)) := sD_M2 hD
          refine lv_aload_n hx hb dX3_piece_72 rfl (lv_at hl 0 rfl) ?_
          refine va_get (D := D) (v := .ref (q 3)) hx hb hts hin_X3 hown hX.1 hP 0 rfl rfl 4 (by decide) hf_16 (fun _ h9 => h9) rfl dX3_piece_73 ?_
          refine lv_aload_n hx hb dX3_piece_76 rfl (lv_at hl 0 rfl) ?_
          refine va_get (D := D) (v := .int (nI (S 0 0))) hx hb hts hin_X3 hown hX.1 hP 0 rfl rfl 1 (by decide) hf_63 (fun _ h9 => h9) rfl dX3_piece_77 ?_
          refine lv_bipush (v := nI 100) hx hb dX3_piece_80 (by decide) ?_
          refine na_iast hx hb hX.1 hP hD hS 3 0 rfl rfl (by omega) (by decide) (upd_enc nI _ _ _) dX3_piece_82 (fun H locs hP hD hS => ?_)
          have hP : va_P D vwCl (wM q k (up2 (up2 (up2 S 1 (S 0 0) (iN x0)) 2 (S 0 0) (iN x1)) 3 (S 0 0) 100) (up2 Z 0 0 0)) H := sP_M3 hP
          have hD : va_D A (wM q k (up2 (up2 (up2 S 1 (S 0 0) (iN x0)) 2 (S 0 0) (iN x1)) 3 (S 0 0) 100) (up2 Z 0 0 0)) := sD_M3 hD
          refine lv_aload_n hx hb dX3_piece_83 rfl (lv_at hl 0 rfl) ?_
          refine va_get (D := D) (v := .ref (q 4)) hx hb hts hin_X3 hown hX.1 hP 0 rfl rfl 5 (by decide) hf_19 (fun _ h9 => h9) rfl dX3_piece_84 ?_
          refine lv_aload_n hx hb dX3_piece_87 rfl (lv_at hl 0 rfl) ?_
          refine va_get (D := D) (v := .int (nI (S 0 0))) hx hb hts hin_X3 hown hX.1 hP 0 rfl rfl 1 (by decide) hf_63 (fun _ h9 => h9) rfl dX3_piece_88 ?_
          refine lv_iload_n hx hb dX3_piece_91 rfl (lv_at hl 3 rfl) ?_
          refine na_zast hx hb hX.1 hP hD hS 4 1 rfl rfl (bN_le _) (by omega) (by decide) (upd_enc nI _ _ _) dX3_piece_92 (fun H locs hP hD hS => ?_)
          have hP : va_P D vwCl (wM q k (up2 (up2 (up2 (up2 S 1 (S 0 0) (iN x0)) 2 (S 0 0) (iN x1)) 3 (S 0 0) 100) 4 (S 0 0) (bN b)) (up2 Z 0 0 0)) H := sP_M4 hP
          have hD : va_D A (wM q k (up2 (up2 (up2 (up2 S 1 (S 0 0) (iN x0)) 2 (S 0 0) (iN x1)) 3 (S 0 0) 100) 4 (S 0 0) (bN b)) (up2 Z 0 0 0)) := sD_M4 hD
          refine lv_aload_n hx hb dX3_piece_93 rfl (lv_at hl 0 rfl) ?_
          refine lv_dup hx hb dX3_piece_94 rfl ?_
          refine va_get (D := D) (v := .int (nI (S 0 0))) hx hb hts hin_X3 hown hX.1 hP 0 rfl rfl 1 (by decide) hf_63 (fun _ h9 => h9) rfl dX3_piece_95 ?_
          refine lv_iconst (v := nI 1) hx hb dX3_piece_98 (by decide) ?_
          refine na_iadd hx hb dX3_piece_99 ?_
          refine va_put (D := D) (v := .int (nI ((S 0 0) + 1))) (ty := .int) hx hb hts hin_X3 tyX3 tyX3_ok nmX3 hown hX.1 hP hD hS 0 rfl rfl 1 (by decide) hf_63 (fun _ h9 => h9) rfl (by decide +kernel) rfl rfl (Nat.le_of_ble_eq_true rfl) dX3_piece_100 (fun H locs hP hD hS => ?_)
          have hP : va_P D vwCl (wM q k (up2 (up2 (up2 (up2 (up2 S 1 (S 0 0) (iN x0)) 2 (S 0 0) (iN x1)) 3 (S 0 0) 100) 4 (S 0 0) (bN b)) 0 0 ((S 0 0) + 1)) (up2 Z 0 0 0)) H := sP_M0_1 hP
          have hD : va_D A (wM q k (up2 (up2 (up2 (up2 (up2 S 1 (S 0 0) (iN x0)) 2 (S 0 0) (iN x1)) 3 (S 0 0) 100) 4 (S 0 0) (bN b)) 0 0 ((S 0 0) + 1)) (up2 Z 0 0 0)) := sD_M0_1 hD
          refine lv_aload_n hx hb dX3_piece_103 rfl (lv_at hl 0 rfl) ?_
          refine lv_dup hx hb dX3_piece_104 rfl ?_
          refine va_get (D := D) (v := .int (nI (S 0 4))) hx hb hts hin_X3 hown hX.1 hP 0 rfl rfl 17 (by decide) hf_70 (fun _ h9 => h9) rfl dX3_piece_105 ?_
          refine lv_iconst (v := nI 1) hx hb dX3_piece_108 (by decide) ?_
          refine na_iadd hx hb dX3_piece_109 ?_
          refine va_put (D := D) (v := .int (nI ((S 0 4) + 1))) (ty := .int) hx hb hts hin_X3 tyX3 tyX3_ok nmX3 hown hX.1 hP hD hS 0 rfl rfl 17 (by decide) hf_70 (fun _ h9 => h9) rfl (by decide +kernel) rfl rfl (Nat.le_of_ble_eq_true rfl) dX3_piece_110 (fun H locs hP hD hS => ?_)
          have hP : va_P D vwCl (wM q k (up2 (up2 (up2 (up2 (up2 (up2 S 1 (S 0 0) (iN x0)) 2 (S 0 0) (iN x1)) 3 (S 0 0) 100) 4 (S 0 0) (bN b)) 0 0 ((S 0 0) + 1)) 0 4 ((S 0 4) + 1)) (up2 Z 0 0 0)) H := sP_M0_17 hP
          have hD : va_D A (wM q k (up2 (up2 (up2 (up2 (up2 (up2 S 1 (S 0 0) (iN x0)) 2 (S 0 0) (iN x1)) 3 (S 0 0) 100) 4 (S 0 0) (bN b)) 0 0 ((S 0 0) + 1)) 0 4 ((S 0 4) + 1)) (up2 Z 0 0 0)) := sD_M0_17 hD
          refine lv_aload_n hx hb dX3_piece_113 rfl (lv_at hl 0 rfl) ?_
          refine va_get (D := D) (v := .int (nI ((S 0 0) + 1))) hx hb hts hin_X3 hown hX.1 hP 0 rfl rfl 1 (by decide) hf_63 (fun _ h9 => h9) rfl dX3_piece_114 ?_
          refine lv_iconst (v := nI 1) hx hb dX3_piece_117 (by decide) ?_
          refine na_isub hx hb (by omega) dX3_piece_118 ?_
          exact W.iret (v := nI (((S 0 0) + 1) - 1)) hx hb hr (fun t ht hW => ⟨⟨_, ((up2 (up2 (up2 (up2 (up2 (up2 S 1 (S 0 0) (iN x0)) 2 (S 0 0) (iN x1)) 3 (S 0 0) 100) 4 (S 0 0) (bN b)) 0 0 ((S 0 0) + 1)) 0 4 ((S 0 4) + 1)), (up2 Z 0 0 0)), rfl, ⟨fun _ => rfl, (nS_0 (cd2_0 (by unfold okP; omega) h_32)).symm, by rw [show cdP S x0 x1 = 0 from cd2_0 (by unfold okP; omega) h_32]⟩, by rw [ht]; exact hP, hD⟩, hS.F ht⟩) hS.2.2 dX3_piece_119
        · exact absurd h_47 (by decide)
      · skip
        refine lv_iconst (v := nI 2) hx hb dX3_piece_35 (by decide) ?_
        refine lv_goto (tgt := 40) hx hb dX3_piece_36 (by decide) ?_
        refine va_put (D := D) (v := .int (nI 2)) (ty := .int) hx hb hts hin_X3 tyX3 tyX3_ok nmX3 hown hX.1 hP hD hS 0 rfl rfl 0 (by decide) hf_59 (fun _ h9 => h9) rfl (by decide +kernel) rfl rfl (Nat.le_of_ble_eq_true rfl) dX3_piece_40 (fun H locs hP hD hS => ?_)
        have hP : va_P D vwCl (wM q k S (up2 Z 0 0 2)) H := sP_M0_0 hP
        have hD : va_D A (wM q k S (up2 Z 0 0 2)) := sD_M0_0 hD
        refine lv_aload_n hx hb dX3_piece_43 rfl (lv_at hl 0 rfl) ?_
        refine va_get (D := D) (v := .int (nI 2)) hx hb hts hin_X3 hown hX.1 hP 0 rfl rfl 0 (by decide) hf_59 (fun _ h9 => h9) rfl dX3_piece_44 ?_
        refine na_if_le (tgt := 52) hx hb (by omega) dX3_piece_47 (by decide) (fun h_47 => ?_) (fun h_47 => ?_)
        · exact absurd h_47 (by decide)
        · skip
          refine lv_iconst (v := nI 0) hx hb dX3_piece_50 (by decide) ?_
          exact W.iret (v := nI 0) hx hb hr (fun t ht hW => ⟨⟨_, (S, (up2 Z 0 0 2)), rfl, (have hc : cdP S x0 x1 = 2 := cd2_2 (ok := okP x0 x1) (full := S 0 0 = 20) (by have i0 := in_t (by decide) (by decide) h_8; have i1 := in_t (by decide) (by decide) h_19; unfold okP; omega) h_32; ⟨fun q => absurd (hc.symm.trans q) (by decide), (nS_n (by rw [hc]; decide)).symm, by rw [hc]⟩), by rw [ht]; exact hP, hD⟩, hS.F ht⟩) hS.2.2 dX3_piece_51
    · skip
      refine lv_iconst (v := nI 1) hx hb dX3_piece_22 (by decide) ?_
      refine lv_goto (tgt := 40) hx hb dX3_piece_23 (by decide) ?_
      refine va_put (D := D) (v := .int (nI 1)) (ty := .int) hx hb hts hin_X3 tyX3 tyX3_ok nmX3 hown hX.1 hP hD hS 0 rfl rfl 0 (by decide) hf_59 (fun _ h9 => h9) rfl (by decide +kernel) rfl rfl (Nat.le_of_ble_eq_true rfl) dX3_piece_40 (fun H locs hP hD hS => ?_)
      have hP : va_P D vwCl (wM q k S (up2 Z 0 0 1)) H := sP_M0_0 hP
      have hD : va_D A (wM q k S (up2 Z 0 0 1)) := sD_M0_0 hD
      refine lv_aload_n hx hb dX3_piece_43 rfl (lv_at hl 0 rfl) ?_
      refine va_get (D := D) (v := .int (nI 1)) hx hb hts hin_X3 hown hX.1 hP 0 rfl rfl 0 (by decide) hf_59 (fun _ h9 => h9) rfl dX3_piece_44 ?_
      refine na_if_le (tgt := 52) hx hb (by omega) dX3_piece_47 (by decide) (fun h_47 => ?_) (fun h_47 => ?_)
      · exact absurd h_47 (by decide)
      · skip
        refine lv_iconst (v := nI 0) hx hb dX3_piece_50 (by decide) ?_
        exact W.iret (v := nI 0) hx hb hr (fun t ht hW => ⟨⟨_, (S, (up2 Z 0 0 1)), rfl, (have hc : cdP S x0 x1 = 1 := cd2_1 (ok := okP x0 x1) (full := S 0 0 = 20) (fun q => by have q2 := q; unfold okP at q2; first | (have z := in_f (by decide) (by decide) h_8; omega) | (have z := in_f (by decide) (by decide) h_19; omega)); ⟨fun q => absurd (hc.symm.trans q) (by decide), (nS_n (by rw [hc]; decide)).symm, by rw [hc]⟩), by rw [ht]; exact hP, hD⟩, hS.F ht⟩) hS.2.2 dX3_piece_51
