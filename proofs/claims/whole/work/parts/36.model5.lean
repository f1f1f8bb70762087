set_option maxHeartbeats 4000000 in
set_option maxRecDepth 100000 in
theorem k_X3_robot (l : Launch) (D : va_G) (q : Nat → Nat) (k : Nat → ClassId) (S Z : Nat → Nat → Nat) (sz : Nat) (x0 : Int32) (hB : Bd S) : Met l yX3_robot wsX3_robot ({ frames := 1, cells := 0, slots := 0, locals := 22 } : Room) (va_Pc [.ref (q 0), .int x0] (wB D k (wM q k S Z) sz)) (va_Qi (fun (r : Int32) (u : (Nat → Nat → Nat) × (Nat → Nat → Nat)) => (cdR S x0 = 0 → r = pI (if fitsW S (iN x0) = true then S 0 2 + 1 else 0)) ∧ u.1 = nS (cdR S x0) S (roS S (iN x0)) ∧ u.2 = up2 Z 0 0 (cdR S x0)) (fun u t => wE D (va_A (wM q k S Z) sz) (wM q k u.1 u.2) t) (va_A (wM q k S Z) sz)) 0 0 (va_A (wM q k S Z) sz) := by
  refine Met.ofW (cc := cX3_robot) (maxL := 4) (ret := (some .int)) (by decide) rfl ?_
  intro p e s m args below meth c s₁ B hml hv
  obtain ⟨rfl, hsz, hP, hX, hD0⟩ := hv
  have hx := B.exec
  have hb := B.bytes
  have hr := B.returns
  have hts := atoms_spec (ws := wsX3_robot) B.pre
  have hown : s.vm.findClass RX3 = some m.cls := findClass_of_methodNamed B.named
  have hlocks := B.notSynchronized
  subst hsz
  have hD := hD0.self (sz := s.heap.size)
  generalize hAe : va_A (wM q k S Z) s.heap.size = A at hD ⊢
  have hA : ∀ q : Nat, s.heap.size ≤ q → A q := fun q h => by rw [← hAe]; exact Or.inr h
  have hS : va_S A s.heap s.heap [] := va_S.rf
  have hP : va_P D vwCl (wM q k S Z) s.heap := hP
  have hf_16 := hts (.fieldLink RX3 16 "FloorGraphModel" "wide" "[I") (by decide +kernel)
  have hf_41 := hts (.fieldLink RX3 41 "FloorGraphModel" "robotWide" "[I") (by decide +kernel)
  have hf_59 := hts (.fieldLink RX3 59 "FloorGraphModel" "code" "I") (by decide +kernel)
  have hf_63 := hts (.fieldLink RX3 63 "FloorGraphModel" "pieces" "I") (by decide +kernel)
  have hf_70 := hts (.fieldLink RX3 70 "FloorGraphModel" "changes" "I") (by decide +kernel)
  have hf_92 := hts (.fieldLink RX3 92 "FloorGraphModel" "robots" "I") (by decide +kernel)
  have hin_X3 : ∀ w ∈ u_ws RX3 TX3 24, w ∈ wsX3_robot := by decide +kernel
  have f0 := hB.1
  have hl := lv_entry ([.ref (q 0), .int x0]) (n := 4) (Nat.le_of_ble_eq_true rfl)
  rw [lg_entry_eq]
  generalize (lg_sl ([.ref (q 0), .int x0]) ++ List.replicate (4 - (lg_sl ([.ref (q 0), .int x0])).length) Slot.unset).toArray = ls at hl ⊢
  have hl : lv_has ls 4 [(0, .ref (q 0)), (1, .int x0)] := hl
  refine lv_aload_n hx hb dX3_robot_0 rfl (lv_at hl 0 rfl) ?_
  refine lv_iload_n hx hb dX3_robot_1 rfl (lv_at hl 1 rfl) ?_
  refine lv_iconst (v := nI 1) hx hb dX3_robot_2 (by decide) ?_
  refine lv_sipush (v := nI 500) hx hb dX3_robot_3 (by decide) ?_
  refine rd_S (As := [.int x0, .int (nI 1), .int (nI 500)]) (rest := [.ref (q 0)]) ⟨hx, hb, hml, hown, hts⟩ (k_X3_in l x0 (nI 1) (nI 500) ) (va_cwS 3 hts gX3_robot_X3_in rfl rfl rfl (by decide +kernel) ⟨by decide, by decide⟩) rfl hl.1 rfl (Nat.le_of_ble_eq_true rfl) dX3_robot_6 ⟨Nat.zero_le _, Nat.zero_le _⟩ ?_
  refine na_if_ne (tgt := 16) hx hb (bN_lt _) dX3_robot_9 (by decide) (fun h_9 => ?_) (fun h_9 => ?_)
  · skip
    refine lv_aload_n hx hb dX3_robot_16 rfl (lv_at hl 0 rfl) ?_
    refine va_get (D := D) (v := .int (nI (S 0 2))) hx hb hts hin_X3 hown hX.1 hP 0 rfl rfl 13 (by decide) hf_92 (fun _ h9 => h9) rfl dX3_robot_17 ?_
    refine lv_bipush (v := nI 6) hx hb dX3_robot_20 (by decide) ?_
    refine na_icmp_ne (tgt := 29) hx hb (by omega) (by omega) dX3_robot_22 (by decide) (fun h_22 => ?_) (fun h_22 => ?_)
    · skip
      refine lv_iconst (v := nI 0) hx hb dX3_robot_29 (by decide) ?_
      refine va_put (D := D) (v := .int (nI 0)) (ty := .int) hx hb hts hin_X3 tyX3 tyX3_ok nmX3 hown hX.1 hP hD hS 0 rfl rfl 0 (by decide) hf_59 (fun _ h9 => h9) rfl (by decide +kernel) rfl rfl (Nat.le_of_ble_eq_true rfl) dX3_robot_30 (fun H locs hP hD hS => ?_)
      have hP : va_P D vwCl (wM q k S (up2 Z 0 0 0)) H := sP_M0_0 hP
      have hD : va_D A (wM q k S (up2 Z 0 0 0)) := sD_M0_0 hD
      refine lv_aload_n hx hb dX3_robot_33 rfl (lv_at hl 0 rfl) ?_
      refine va_get (D := D) (v := .int (nI 0)) hx hb hts hin_X3 hown hX.1 hP 0 rfl rfl 0 (by decide) hf_59 (fun _ h9 => h9) rfl dX3_robot_34 ?_
      refine na_if_le (tgt := 42) hx hb (by omega) dX3_robot_37 (by decide) (fun h_37 => ?_) (fun h_37 => ?_)
      · skip
        have i0 := in_t (by decide) (by decide) h_9
        have j0 := iN_toInt (x := x0) (by omega)
        have cz : cdR S x0 = 0 := cd2_0 (by unfold okR; omega) h_22
        refine lv_iconst (v := nI 0) hx hb dX3_robot_42 (by decide) ?_
        refine lv_istore_n (lv' := [(2, .int (nI 0)), (0, .ref (q 0)), (1, .int x0)]) hx hb dX3_robot_43 rfl hl (by decide) rfl (fun ls hl => ?_)
        refine lv_iconst (v := nI 0) hx hb dX3_robot_44 (by decide) ?_
        refine lv_istore_n (lv' := [(3, .int (nI 0)), (2, .int (nI 0)), (0, .ref (q 0)), (1, .int x0)]) hx hb dX3_robot_45 rfl hl (by decide) rfl (fun ls hl => ?_)
        have L46 : ∀ (n46 : Nat) (i : Nat) (f : Nat), (S 0 0 < i + n46) → (h1 : i ≤ S 0 0) → (h3 : f = bN (anyB (fun j => decide (iN x0 ≤ S 3 j)) i)) → ∀ (H : Heap) (locs : List Loc), va_P D vwCl (wM q k S (up2 Z 0 0 0)) H → va_D A (wM q k S (up2 Z 0 0 0)) → va_S A s.heap H locs → ∀ (ls : Array Slot), lv_has ls 4 [(3, .int (nI i)), (2, .int (nI f)), (0, .ref (q 0)), (1, .int x0)] → W p l e (headSpec wsX3_robot ({ frames := 1, cells := 0, slots := 0, locals := 22 } : Room)).room s m [.ref (q 0), .int x0].toArray below meth c H locs 0 0 (MQ below (va_Qi (fun (r : Int32) (u : (Nat → Nat → Nat) × (Nat → Nat → Nat)) => (cdR S x0 = 0 → r = pI (if fitsW S (iN x0) = true then S 0 2 + 1 else 0)) ∧ u.1 = nS (cdR S x0) S (roS S (iN x0)) ∧ u.2 = up2 Z 0 0 (cdR S x0)) (fun u t => wE D (A) (wM q k u.1 u.2) t) (A)) [.ref (q 0), .int x0].toArray s 0 0 A) (F0 m 46 ls []) := by
          intro n46
          induction n46 with
          | zero =>
            intro i f hfuel46 h1 h3 H locs hP hD hS ls hl
            exact absurd hfuel46 (by omega)
          | succ n46 ih46 =>
            intro i f hfuel46 h1 h3 H locs hP hD hS ls hl
            have f1 := hB.2.1 i
            have f2 := bN_le (anyB (fun j => decide (iN x0 ≤ S 3 j)) i)
            refine lv_iload_n hx hb dX3_robot_46 rfl (lv_at hl 0 rfl) ?_
            refine lv_aload_n hx hb dX3_robot_47 rfl (lv_at hl 2 rfl) ?_
            refine va_get (D := D) (v := .int (nI (S 0 0))) hx hb hts hin_X3 hown hX.1 hP 0 rfl rfl 1 (by decide) hf_63 (fun _ h9 => h9) rfl dX3_robot_48 ?_
            refine na_icmp_ge (tgt := 80) hx hb (by omega) (by omega) dX3_robot_51 (by decide) (fun h_51 => ?_) (fun h_51 => ?_)
            · skip
              refine lv_iload_n hx hb dX3_robot_80 rfl (lv_at hl 1 rfl) ?_
              refine na_if_ne (tgt := 86) hx hb (by omega) dX3_robot_81 (by decide) (fun h_81 => ?_) (fun h_81 => ?_)
              · skip
                refine lv_aload_n hx hb dX3_robot_86 rfl (lv_at hl 2 rfl) ?_
                refine va_get (D := D) (v := .ref (q 11)) hx hb hts hin_X3 hown hX.1 hP 0 rfl rfl 14 (by decide) hf_41 (fun _ h9 => h9) rfl dX3_robot_87 ?_
                refine lv_aload_n hx hb dX3_robot_90 rfl (lv_at hl 2 rfl) ?_
                refine va_get (D := D) (v := .int (nI (S 0 2))) hx hb hts hin_X3 hown hX.1 hP 0 rfl rfl 13 (by decide) hf_92 (fun _ h9 => h9) rfl dX3_robot_91 ?_
                refine lv_iload_n hx hb dX3_robot_94 rfl (lv_at hl 3 rfl) ?_
                refine na_as (y := nI (iN x0)) (iN_eq (by omega)) ?_
                refine na_iast hx hb hX.1 hP hD hS 11 0 rfl rfl (by omega) (by decide) (upd_enc nI _ _ _) dX3_robot_95 (fun H locs hP hD hS => ?_)
                have hP : va_P D vwCl (wM q k (up2 S 11 (S 0 2) (iN x0)) (up2 Z 0 0 0)) H := sP_M11 hP
                have hD : va_D A (wM q k (up2 S 11 (S 0 2) (iN x0)) (up2 Z 0 0 0)) := sD_M11 hD
                refine lv_aload_n hx hb dX3_robot_96 rfl (lv_at hl 2 rfl) ?_
                refine lv_dup hx hb dX3_robot_97 rfl ?_
                refine va_get (D := D) (v := .int (nI (S 0 2))) hx hb hts hin_X3 hown hX.1 hP 0 rfl rfl 13 (by decide) hf_92 (fun _ h9 => h9) rfl dX3_robot_98 ?_
                refine lv_iconst (v := nI 1) hx hb dX3_robot_101 (by decide) ?_
                refine na_iadd hx hb dX3_robot_102 ?_
                refine va_put (D := D) (v := .int (nI ((S 0 2) + 1))) (ty := .int) hx hb hts hin_X3 tyX3 tyX3_ok nmX3 hown hX.1 hP hD hS 0 rfl rfl 13 (by decide) hf_92 (fun _ h9 => h9) rfl (by decide +kernel) rfl rfl (Nat.le_of_ble_eq_true rfl) dX3_robot_103 (fun H locs hP hD hS => ?_)
                have hP : va_P D vwCl (wM q k (up2 (up2 S 11 (S 0 2) (iN x0)) 0 2 ((S 0 2) + 1)) (up2 Z 0 0 0)) H := sP_M0_13 hP
                have hD : va_D A (wM q k (up2 (up2 S 11 (S 0 2) (iN x0)) 0 2 ((S 0 2) + 1)) (up2 Z 0 0 0)) := sD_M0_13 hD
                refine lv_aload_n hx hb dX3_robot_106 rfl (lv_at hl 2 rfl) ?_
                refine lv_dup hx hb dX3_robot_107 rfl ?_
                refine va_get (D := D) (v := .int (nI (S 0 4))) hx hb hts hin_X3 hown hX.1 hP 0 rfl rfl 17 (by decide) hf_70 (fun _ h9 => h9) rfl dX3_robot_108 ?_
                refine lv_iconst (v := nI 1) hx hb dX3_robot_111 (by decide) ?_
                refine na_iadd hx hb dX3_robot_112 ?_
                refine va_put (D := D) (v := .int (nI ((S 0 4) + 1))) (ty := .int) hx hb hts hin_X3 tyX3 tyX3_ok nmX3 hown hX.1 hP hD hS 0 rfl rfl 17 (by decide) hf_70 (fun _ h9 => h9) rfl (by decide +kernel) rfl rfl (Nat.le_of_ble_eq_true rfl) dX3_robot_113 (fun H locs hP hD hS => ?_)
                have hP : va_P D vwCl (wM q k (up2 (up2 (up2 S 11 (S 0 2) (iN x0)) 0 2 ((S 0 2) + 1)) 0 4 ((S 0 4) + 1)) (up2 Z 0 0 0)) H := sP_M0_17 hP
                have hD : va_D A (wM q k (up2 (up2 (up2 S 11 (S 0 2) (iN x0)) 0 2 ((S 0 2) + 1)) 0 4 ((S 0 4) + 1)) (up2 Z 0 0 0)) := sD_M0_17 hD
                refine lv_aload_n hx hb dX3_robot_116 rfl (lv_at hl 2 rfl) ?_
                refine va_get (D := D) (v := .int (nI ((S 0 2) + 1))) hx hb hts hin_X3 hown hX.1 hP 0 rfl rfl 13 (by decide) hf_92 (fun _ h9 => h9) rfl dX3_robot_117 ?_
                refine lv_iconst (v := nI 1) hx hb dX3_robot_120 (by decide) ?_
                refine na_isub hx hb (by omega) dX3_robot_121 ?_
                exact W.iret (v := nI (((S 0 2) + 1) - 1)) hx hb hr (fun t ht hW => ⟨⟨_, ((up2 (up2 (up2 S 11 (S 0 2) (iN x0)) 0 2 ((S 0 2) + 1)) 0 4 ((S 0 4) + 1)), (up2 Z 0 0 0)), rfl, (have fw : fitsW S (iN x0) = true := bN_pos (by rw [fitsW, ← show i = S 0 0 by omega, ← h3]; exact h_81); ⟨fun _ => by rw [fw]; exact pI_s (S 0 2), by rw [nS_0 cz, roS, if_pos fw], by rw [cz]⟩), by rw [ht]; exact hP, hD⟩, hS.F ht⟩) hS.2.2 dX3_robot_122
              · skip
                refine lv_iconst (v := pI 0) hx hb dX3_robot_84 (by decide) ?_
                exact W.iret (v := pI 0) hx hb hr (fun t ht hW => ⟨⟨_, (S, (up2 Z 0 0 0)), rfl, (have fw : fitsW S (iN x0) = false := bN_zero (by rw [fitsW, ← show i = S 0 0 by omega, ← h3]; exact h_81); ⟨fun _ => by rw [fw]; rfl, by rw [nS_0 cz, roS, fw]; rfl, by rw [cz]⟩), by rw [ht]; exact hP, hD⟩, hS.F ht⟩) hS.2.2 dX3_robot_85
            · skip
              refine lv_iload_n hx hb dX3_robot_54 rfl (lv_at hl 1 rfl) ?_
              refine na_if_ne (tgt := 68) hx hb (by omega) dX3_robot_55 (by decide) (fun h_55 => ?_) (fun h_55 => ?_)
              · skip
                refine lv_iconst (v := nI 1) hx hb dX3_robot_68 (by decide) ?_
                refine lv_goto (tgt := 73) hx hb dX3_robot_69 (by decide) ?_
                refine lv_istore_n (lv' := [(2, .int (nI 1)), (3, .int (nI i)), (0, .ref (q 0)), (1, .int x0)]) hx hb dX3_robot_73 rfl hl (by decide) rfl (fun ls hl => ?_)
                refine lv_iinc (v := nI (i + 1)) (lv' := [(3, .int (nI (i + 1))), (2, .int (nI 1)), (0, .ref (q 0)), (1, .int x0)]) hx hb dX3_robot_74 hl (k := 1) rfl (nI_add _ 1) (by decide) rfl (fun ls hl => ?_)
                refine lv_goto (tgt := 46) hx hb dX3_robot_77 (by decide) ?_
                exact ih46 (i + 1) 1 (by omega) (by omega) (by first | exact any_o h3 h_55 | exact any_y h3 h_55 (decide_eq_true (by omega)) | exact any_n h3 h_55 (decide_eq_false (by omega))) _ _ hP hD hS ls hl
              · skip
                refine lv_aload_n hx hb dX3_robot_58 rfl (lv_at hl 2 rfl) ?_
                refine va_get (D := D) (v := .ref (q 3)) hx hb hts hin_X3 hown hX.1 hP 0 rfl rfl 4 (by decide) hf_16 (fun _ h9 => h9) rfl dX3_robot_59 ?_
                refine lv_iload_n hx hb dX3_robot_62 rfl (lv_at hl 0 rfl) ?_
                refine na_iald hx hb hX.1 hP 3 0 rfl rfl (by omega) (by decide) dX3_robot_63 ?_
                refine lv_iload_n hx hb dX3_robot_64 rfl (lv_at hl 3 rfl) ?_
                refine na_as (y := nI (iN x0)) (iN_eq (by omega)) ?_
                refine na_icmp_lt (tgt := 72) hx hb (by omega) (by omega) dX3_robot_65 (by decide) (fun h_65 => ?_) (fun h_65 => ?_)
                · skip
                  refine lv_iconst (v := nI 0) hx hb dX3_robot_72 (by decide) ?_
                  refine lv_istore_n (lv' := [(2, .int (nI 0)), (3, .int (nI i)), (0, .ref (q 0)), (1, .int x0)]) hx hb dX3_robot_73 rfl hl (by decide) rfl (fun ls hl => ?_)
                  refine lv_iinc (v := nI (i + 1)) (lv' := [(3, .int (nI (i + 1))), (2, .int (nI 0)), (0, .ref (q 0)), (1, .int x0)]) hx hb dX3_robot_74 hl (k := 1) rfl (nI_add _ 1) (by decide) rfl (fun ls hl => ?_)
                  refine lv_goto (tgt := 46) hx hb dX3_robot_77 (by decide) ?_
                  exact ih46 (i + 1) 0 (by omega) (by omega) (by first | exact any_o h3 h_55 | exact any_y h3 h_55 (decide_eq_true (by omega)) | exact any_n h3 h_55 (decide_eq_false (by omega))) _ _ hP hD hS ls hl
                · skip
                  refine lv_iconst (v := nI 1) hx hb dX3_robot_68 (by decide) ?_
                  refine lv_goto (tgt := 73) hx hb dX3_robot_69 (by decide) ?_
                  refine lv_istore_n (lv' := [(2, .int (nI 1)), (3, .int (nI i)), (0, .ref (q 0)), (1, .int x0)]) hx hb dX3_robot_73 rfl hl (by decide) rfl (fun ls hl => ?_)
                  refine lv_iinc (v := nI (i + 1)) (lv' := [(3, .int (nI (i + 1))), (2, .int (nI 1)), (0, .ref (q 0)), (1, .int x0)]) hx hb dX3_robot_74 hl (k := 1) rfl (nI_add _ 1) (by decide) rfl (fun ls hl => ?_)
                  refine lv_goto (tgt := 46) hx hb dX3_robot_77 (by decide) ?_
                  exact ih46 (i + 1) 1 (by omega) (by omega) (by first | exact any_o h3 h_55 | exact any_y h3 h_55 (decide_eq_true (by omega)) | exact any_n h3 h_55 (decide_eq_false (by omega))) _ _ hP hD hS ls hl
        exact L46 (S 0 0 + 1) 0 0 (by omega) (by omega) rfl _ _ hP hD hS ls hl
      · exact absurd h_37 (by decide)
    · skip
      refine lv_iconst (v := nI 2) hx hb dX3_robot_25 (by decide) ?_
      refine lv_goto (tgt := 30) hx hb dX3_robot_26 (by decide) ?_
      refine va_put (D := D) (v := .int (nI 2)) (ty := .int) hx hb hts hin_X3 tyX3 tyX3_ok nmX3 hown hX.1 hP hD hS 0 rfl rfl 0 (by decide) hf_59 (fun _ h9 => h9) rfl (by decide +kernel) rfl rfl (Nat.le_of_ble_eq_true rfl) dX3_robot_30 (fun H locs hP hD hS => ?_)
      have hP : va_P D vwCl (wM q k S (up2 Z 0 0 2)) H := sP_M0_0 hP
      have hD : va_D A (wM q k S (up2 Z 0 0 2)) := sD_M0_0 hD
      refine lv_aload_n hx hb dX3_robot_33 rfl (lv_at hl 0 rfl) ?_
      refine va_get (D := D) (v := .int (nI 2)) hx hb hts hin_X3 hown hX.1 hP 0 rfl rfl 0 (by decide) hf_59 (fun _ h9 => h9) rfl dX3_robot_34 ?_
      refine na_if_le (tgt := 42) hx hb (by omega) dX3_robot_37 (by decide) (fun h_37 => ?_) (fun h_37 => ?_)
      · exact absurd h_37 (by decide)
      · skip
        refine lv_iconst (v := nI 0) hx hb dX3_robot_40 (by decide) ?_
        exact W.iret (v := nI 0) hx hb hr (fun t ht hW => ⟨⟨_, (S, (up2 Z 0 0 2)), rfl, (have hc : cdR S x0 = 2 := cd2_2 (ok := okR x0) (full := S 0 2 = 6) (by have i0 := in_t (by decide) (by decide) h_9; unfold okR; omega) h_22; ⟨fun q => absurd (hc.symm.trans q) (by decide), (nS_n (by rw [hc]; decide)).symm, by rw [hc]⟩), by rw [ht]; exact hP, hD⟩, hS.F ht⟩) hS.2.2 dX3_robot_41
  · skip
    refine lv_iconst (v := nI 1) hx hb dX3_robot_12 (by decide) ?_
    refine lv_goto (tgt := 30) hx hb dX3_robot_13 (by decide) ?_
    refine va_put (D := D) (v := .int (nI 1)) (ty := .int) hx hb hts hin_X3 tyX3 tyX3_ok nmX3 hown hX.1 hP hD hS 0 rfl rfl 0 (by decide) hf_59 (fun _ h9 => h9) rfl (by decide +kernel) rfl rfl (Nat.le_of_ble_eq_true rfl) dX3_robot_30 (fun H locs hP hD hS => ?_)
    have hP : va_P D vwCl (wM q k S (up2 Z 0 0 1)) H := sP_M0_0 hP
    have hD : va_D A (wM q k S (up2 Z 0 0 1)) := sD_M0_0 hD
    refine lv_aload_n hx hb dX3_robot_33 rfl (lv_at hl 0 rfl) ?_
    refine va_get (D := D) (v := .int (nI 1)) hx hb hts hin_X3 hown hX.1 hP 0 rfl rfl 0 (by decide) hf_59 (fun _ h9 => h9) rfl dX3_robot_34 ?_
    refine na_if_le (tgt := 42) hx hb (by omega) dX3_robot_37 (by decide) (fun h_37 => ?_) (fun h_37 => ?_)
    · exact absurd h_37 (by decide)
    · skip
      refine lv_iconst (v := nI 0) hx hb dX3_robot_40 (by decide) ?_
      exact W.iret (v := nI 0) hx hb hr (fun t ht hW => ⟨⟨_, (S, (up2 Z 0 0 1)), rfl, (have hc : cdR S x0 = 1 := cd2_1 (ok := okR x0) (full := S 0 2 = 6) (fun q => by unfold okR at q; have z := in_f (by decide) (by decide) h_9; omega); ⟨fun q => absurd (hc.symm.trans q) (by decide), (nS_n (by rw [hc]; decide)).symm, by rw [hc]⟩), by rw [ht]; exact hP, hD⟩, hS.F ht⟩) hS.2.2 dX3_robot_41

set_option maxHeartbeats 4000000 in
set_option maxRecDepth 100000 in
theorem k_X3_charger (l : Launch) (D : va_G) (q : Nat → Nat) (k : Nat → ClassId) (S Z : Nat → Nat → Nat) (sz : Nat) (x0 : Int32) (hB : Bd S) : Met l yX3_charger wsX3_charger ({ frames := 2, cells := 0, slots := 0, locals := 43 } : Room) (va_Pc [.ref (q 0), .int x0] (wB D k (wM q k S Z) sz)) (va_Qi (fun (r : Int32) (u : (Nat → Nat → Nat) × (Nat → Nat → Nat)) => (cdC S x0 = 0 → r = nI (S 0 3 + 1)) ∧ u.1 = nS (cdC S x0) S (chS S (iN x0)) ∧ u.2 = up2 Z 0 0 (cdC S x0)) (fun u t => wE D (va_A (wM q k S Z) sz) (wM q k u.1 u.2) t) (va_A (wM q k S Z) sz)) 0 0 (va_A (wM q k S Z) sz) := by
  refine Met.ofW (cc := cX3_charger) (maxL := 3) (ret := (some .int)) (by decide) rfl ?_
  intro p e s m args below meth c s₁ B hml hv
  obtain ⟨rfl, hsz, hP, hX, hD0⟩ := hv
  have hx := B.exec
  have hb := B.bytes
  have hr := B.returns
  have hts := atoms_spec (ws := wsX3_charger) B.pre
  have hown : s.vm.findClass RX3 = some m.cls := findClass_of_methodNamed B.named
  have hlocks := B.notSynchronized
  subst hsz
  have hD := hD0.self (sz := s.heap.size)
  generalize hAe : va_A (wM q k S Z) s.heap.size = A at hD ⊢
  have hA : ∀ q : Nat, s.heap.size ≤ q → A q := fun q h => by rw [← hAe]; exact Or.inr h
  have hS : va_S A s.heap s.heap [] := va_S.rf
  have hP : va_P D vwCl (wM q k S Z) s.heap := hP
  have hf_44 := hts (.fieldLink RX3 44 "FloorGraphModel" "chargerAt" "[I") (by decide +kernel)
  have hf_59 := hts (.fieldLink RX3 59 "FloorGraphModel" "code" "I") (by decide +kernel)
  have hf_70 := hts (.fieldLink RX3 70 "FloorGraphModel" "changes" "I") (by decide +kernel)
  have hf_138 := hts (.fieldLink RX3 138 "FloorGraphModel" "chargers" "I") (by decide +kernel)
  have hin_X3 : ∀ w ∈ u_ws RX3 TX3 24, w ∈ wsX3_charger := by decide +kernel
  have f0 := hB.1
  have hl := lv_entry ([.ref (q 0), .int x0]) (n := 3) (Nat.le_of_ble_eq_true rfl)
  rw [lg_entry_eq]
  generalize (lg_sl ([.ref (q 0), .int x0]) ++ List.replicate (3 - (lg_sl ([.ref (q 0), .int x0])).length) Slot.unset).toArray = ls at hl ⊢
  have hl : lv_has ls 3 [(0, .ref (q 0)), (1, .int x0)] := hl
  refine lv_aload_n hx hb dX3_charger_0 rfl (lv_at hl 0 rfl) ?_
  refine lv_aload_n hx hb dX3_charger_1 rfl (lv_at hl 0 rfl) ?_
  refine lv_iload_n hx hb dX3_charger_2 rfl (lv_at hl 1 rfl) ?_
  refine rd_V (As := [.int x0]) (rest := [.ref (q 0)]) ⟨hx, hb, hml, hown, hts⟩ (k_X3_isPiece l D q k S Z x0 (by omega)) (cwV 1 hts gX3_charger_X3_isPiece rfl rfl rfl (by decide +kernel) ⟨by decide, by decide⟩) hX hP (q0 := 0) rfl rfl rfl hl.1 rfl (Nat.le_of_ble_eq_true rfl) dX3_charger_3 ⟨Nat.zero_le _, Nat.zero_le _⟩ ?_
  refine na_if_ne (tgt := 13) hx hb (bN_lt _) dX3_charger_6 (by decide) (fun h_6 => ?_) (fun h_6 => ?_)
  · skip
    refine lv_iconst (v := nI 0) hx hb dX3_charger_13 (by decide) ?_
    refine va_put (D := D) (v := .int (nI 0)) (ty := .int) hx hb hts hin_X3 tyX3 tyX3_ok nmX3 hown hX.1 hP hD hS 0 rfl rfl 0 (by decide) hf_59 (fun _ h9 => h9) rfl (by decide +kernel) rfl rfl (Nat.le_of_ble_eq_true rfl) dX3_charger_14 (fun H locs hP hD hS => ?_)
    have hP : va_P D vwCl (wM q k S (up2 Z 0 0 0)) H := sP_M0_0 hP
    have hD : va_D A (wM q k S (up2 Z 0 0 0)) := sD_M0_0 hD
    refine lv_iconst (v := nI 0) hx hb dX3_charger_17 (by decide) ?_
    refine lv_istore_n (lv' := [(2, .int (nI 0)), (0, .ref (q 0)), (1, .int x0)]) hx hb dX3_charger_18 rfl hl (by decide) rfl (fun ls hl => ?_)
    have L19 : ∀ (n19 : Nat) (i : Nat) (cv : Nat) (Y : Nat → Nat → Nat), (S 0 3 < i + n19) → (h1 : i ≤ S 0 3) → (hY : Y = up2 Z 0 0 cv) → (hv : cv = 0 ∨ cv = 1 ∨ cv = 2) → (hp : cv ≠ 1 → 0 ≤ x0.toInt ∧ x0.toInt < (S 0 0 : Int)) → (hq : cv = 1 → ¬ (0 ≤ x0.toInt ∧ x0.toInt < (S 0 0 : Int))) → (ha0 : cv = 0 → anyB (fun j => decide (S 12 j = iN x0)) i = false) → (ha2 : cv = 2 → hasCh S (iN x0) = true) → ∀ (H : Heap) (locs : List Loc), va_P D vwCl (wM q k S Y) H → va_D A (wM q k S Y) → va_S A s.heap H locs → ∀ (ls : Array Slot), lv_has ls 3 [(2, .int (nI i)), (0, .ref (q 0)), (1, .int x0)] → W p l e (headSpec wsX3_charger ({ frames := 2, cells := 0, slots := 0, locals := 43 } : Room)).room s m [.ref (q 0), .int x0].toArray below meth c H locs 0 0 (MQ below (va_Qi (fun (r : Int32) (u : (Nat → Nat → Nat) × (Nat → Nat → Nat)) => (cdC S x0 = 0 → r = nI (S 0 3 + 1)) ∧ u.1 = nS (cdC S x0) S (chS S (iN x0)) ∧ u.2 = up2 Z 0 0 (cdC S x0)) (fun u t => wE D (A) (wM q k u.1 u.2) t) (A)) [.ref (q 0), .int x0].toArray s 0 0 A) (F0 m 19 ls []) := by
      intro n19
      induction n19 with
      | zero =>
        intro i cv Y hfuel19 h1 hY hv hp hq ha0 ha2 H locs hP hD hS ls hl
        exact absurd hfuel19 (by omega)
      | succ n19 ih19 =>
        intro i cv Y hfuel19 h1 hY hv hp hq ha0 ha2 H locs hP hD hS ls hl
        have f1 := hB.2.2.2.2 i
        have hY0 : Y 0 0 = cv := by rw [hY]; exact up2_same _ _ _ _
        have j0 : (cv ≠ 1) → (iN x0 : Int) = x0.toInt := fun z => iN_toInt (hp z).1
        refine lv_iload_n hx hb dX3_charger_19 rfl (lv_at hl 0 rfl) ?_
        refine lv_aload_n hx hb dX3_charger_20 rfl (lv_at hl 1 rfl) ?_
        refine va_get (D := D) (v := .int (nI (S 0 3))) hx hb hts hin_X3 hown hX.1 hP 0 rfl rfl 15 (by decide) hf_138 (fun _ h9 => h9) rfl dX3_charger_21 ?_
        refine na_icmp_ge (tgt := 59) hx hb (by omega) (by omega) dX3_charger_24 (by decide) (fun h_24 => ?_) (fun h_24 => ?_)
        · skip
          refine lv_aload_n hx hb dX3_charger_59 rfl (lv_at hl 1 rfl) ?_
          refine va_get (D := D) (v := .int (nI (Y 0 0))) hx hb hts hin_X3 hown hX.1 hP 0 rfl rfl 0 (by decide) hf_59 (fun _ h9 => h9) rfl dX3_charger_60 ?_
          refine na_if_ne (tgt := 84) hx hb (by omega) dX3_charger_63 (by decide) (fun h_63 => ?_) (fun h_63 => ?_)
          · skip
            refine lv_aload_n hx hb dX3_charger_84 rfl (lv_at hl 1 rfl) ?_
            refine va_get (D := D) (v := .int (nI (Y 0 0))) hx hb hts hin_X3 hown hX.1 hP 0 rfl rfl 0 (by decide) hf_59 (fun _ h9 => h9) rfl dX3_charger_85 ?_
            refine na_if_le (tgt := 93) hx hb (by omega) dX3_charger_88 (by decide) (fun h_88 => ?_) (fun h_88 => ?_)
            · skip
              exact absurd h_88 (by omega)
            · skip
              refine lv_iconst (v := nI 0) hx hb dX3_charger_91 (by decide) ?_
              exact W.iret (v := nI 0) hx hb hr (fun t ht hW => ⟨⟨_, (S, Y), rfl, (have hc : cdC S x0 = cv := cdC_cv hv (by omega) hp hq ha2; ⟨fun q => absurd (hc.symm.trans q) (by omega), (nS_n (by omega)).symm, by rw [hc]; exact hY⟩), by rw [ht]; exact hP, hD⟩, hS.F ht⟩) hS.2.2 dX3_charger_92
          · skip
            refine lv_aload_n hx hb dX3_charger_66 rfl (lv_at hl 1 rfl) ?_
            refine lv_aload_n hx hb dX3_charger_67 rfl (lv_at hl 1 rfl) ?_
            refine va_get (D := D) (v := .int (nI (S 0 3))) hx hb hts hin_X3 hown hX.1 hP 0 rfl rfl 15 (by decide) hf_138 (fun _ h9 => h9) rfl dX3_charger_68 ?_
            refine lv_bipush (v := nI 8) hx hb dX3_charger_71 (by decide) ?_
            refine na_icmp_ne (tgt := 80) hx hb (by omega) (by omega) dX3_charger_73 (by decide) (fun h_73 => ?_) (fun h_73 => ?_)
            · skip
              refine lv_iconst (v := nI 0) hx hb dX3_charger_80 (by decide) ?_
              refine va_put (D := D) (v := .int (nI 0)) (ty := .int) hx hb hts hin_X3 tyX3 tyX3_ok nmX3 hown hX.1 hP hD hS 0 rfl rfl 0 (by decide) hf_59 (fun _ h9 => h9) rfl (by decide +kernel) rfl rfl (Nat.le_of_ble_eq_true rfl) dX3_charger_81 (fun H locs hP hD hS => ?_)
              have hP : va_P D vwCl (wM q k S (up2 Y 0 0 0)) H := sP_M0_0 hP
              have hD : va_D A (wM q k S (up2 Y 0 0 0)) := sD_M0_0 hD
              refine lv_aload_n hx hb dX3_charger_84 rfl (lv_at hl 1 rfl) ?_
              refine va_get (D := D) (v := .int (nI 0)) hx hb hts hin_X3 hown hX.1 hP 0 rfl rfl 0 (by decide) hf_59 (fun _ h9 => h9) rfl dX3_charger_85 ?_
              refine na_if_le (tgt := 93) hx hb (by omega) dX3_charger_88 (by decide) (fun h_88 => ?_) (fun h_88 => ?_)
              · skip
                refine lv_aload_n hx hb dX3_charger_93 rfl (lv_at hl 1 rfl) ?_
                refine va_get (D := D) (v := .ref (q 12)) hx hb hts hin_X3 hown hX.1 hP 0 rfl rfl 16 (by decide) hf_44 (fun _ h9 => h9) rfl dX3_charger_94 ?_
                refine lv_aload_n hx hb dX3_charger_97 rfl (lv_at hl 1 rfl) ?_
                refine va_get (D := D) (v := .int (nI (S 0 3))) hx hb hts hin_X3 hown hX.1 hP 0 rfl rfl 15 (by decide) hf_138 (fun _ h9 => h9) rfl dX3_charger_98 ?_
                refine lv_iload_n hx hb dX3_charger_101 rfl (lv_at hl 2 rfl) ?_
                refine na_as (y := nI (iN x0)) (iN_eq (hp (by omega)).1) ?_
                refine na_iast hx hb hX.1 hP hD hS 12 0 rfl rfl (by omega) (by decide) (upd_enc nI _ _ _) dX3_charger_102 (fun H locs hP hD hS => ?_)
                have hP : va_P D vwCl (wM q k (up2 S 12 (S 0 3) (iN x0)) (up2 Y 0 0 0)) H := sP_M12 hP
                have hD : va_D A (wM q k (up2 S 12 (S 0 3) (iN x0)) (up2 Y 0 0 0)) := sD_M12 hD
                refine lv_aload_n hx hb dX3_charger_103 rfl (lv_at hl 1 rfl) ?_
                refine lv_dup hx hb dX3_charger_104 rfl ?_
                refine va_get (D := D) (v := .int (nI (S 0 3))) hx hb hts hin_X3 hown hX.1 hP 0 rfl rfl 15 (by decide) hf_138 (fun _ h9 => h9) rfl dX3_charger_105 ?_
                refine lv_iconst (v := nI 1) hx hb dX3_charger_108 (by decide) ?_
                refine na_iadd hx hb dX3_charger_109 ?_
                refine va_put (D := D) (v := .int (nI ((S 0 3) + 1))) (ty := .int) hx hb hts hin_X3 tyX3 tyX3_ok nmX3 hown hX.1 hP hD hS 0 rfl rfl 15 (by decide) hf_138 (fun _ h9 => h9) rfl (by decide +kernel) rfl rfl (Nat.le_of_ble_eq_true rfl) dX3_charger_110 (fun H locs hP hD hS => ?_)
                have hP : va_P D vwCl (wM q k (up2 (up2 S 12 (S 0 3) (iN x0)) 0 3 ((S 0 3) + 1)) (up2 Y 0 0 0)) H := sP_M0_15 hP
                have hD : va_D A (wM q k (up2 (up2 S 12 (S 0 3) (iN x0)) 0 3 ((S 0 3) + 1)) (up2 Y 0 0 0)) := sD_M0_15 hD
                refine lv_aload_n hx hb dX3_charger_113 rfl (lv_at hl 1 rfl) ?_
                refine lv_dup hx hb dX3_charger_114 rfl ?_
                refine va_get (D := D) (v := .int (nI (S 0 4))) hx hb hts hin_X3 hown hX.1 hP 0 rfl rfl 17 (by decide) hf_70 (fun _ h9 => h9) rfl dX3_charger_115 ?_
                refine lv_iconst (v := nI 1) hx hb dX3_charger_118 (by decide) ?_
                refine na_iadd hx hb dX3_charger_119 ?_
                refine va_put (D := D) (v := .int (nI ((S 0 4) + 1))) (ty := .int) hx hb hts hin_X3 tyX3 tyX3_ok nmX3 hown hX.1 hP hD hS 0 rfl rfl 17 (by decide) hf_70 (fun _ h9 => h9) rfl (by decide +kernel) rfl rfl (Nat.le_of_ble_eq_true rfl) dX3_charger_120 (fun H locs hP hD hS => ?_)
                have hP : va_P D vwCl (wM q k (up2 (up2 (up2 S 12 (S 0 3) (iN x0)) 0 3 ((S 0 3) + 1)) 0 4 ((S 0 4) + 1)) (up2 Y 0 0 0)) H := sP_M0_17 hP
                have hD : va_D A (wM q k (up2 (up2 (up2 S 12 (S 0 3) (iN x0)) 0 3 ((S 0 3) + 1)) 0 4 ((S 0 4) + 1)) (up2 Y 0 0 0)) := sD_M0_17 hD
                refine lv_aload_n hx hb dX3_charger_123 rfl (lv_at hl 1 rfl) ?_
                refine va_get (D := D) (v := .int (nI ((S 0 3) + 1))) hx hb hts hin_X3 hown hX.1 hP 0 rfl rfl 15 (by decide) hf_138 (fun _ h9 => h9) rfl dX3_charger_124 ?_
                exact W.iret (v := nI ((S 0 3) + 1)) hx hb hr (fun t ht hW => ⟨⟨_, ((up2 (up2 (up2 S 12 (S 0 3) (iN x0)) 0 3 ((S 0 3) + 1)) 0 4 ((S 0 4) + 1)), (up2 Y 0 0 0)), rfl, (have hc : cdC S x0 = 0 := cdC_0 (hp (by omega)) (by rw [hasCh, ← show i = S 0 3 by omega]; exact ha0 (by omega)) h_73; ⟨fun _ => rfl, (nS_0 hc).symm, by rw [hc, hY]; exact up2_up2 _ _ _ _ _⟩), by rw [ht]; exact hP, hD⟩, hS.F ht⟩) hS.2.2 dX3_charger_127
              · exact absurd h_88 (by decide)
            · skip
              refine lv_iconst (v := nI 3) hx hb dX3_charger_76 (by decide) ?_
              refine lv_goto (tgt := 81) hx hb dX3_charger_77 (by decide) ?_
              refine va_put (D := D) (v := .int (nI 3)) (ty := .int) hx hb hts hin_X3 tyX3 tyX3_ok nmX3 hown hX.1 hP hD hS 0 rfl rfl 0 (by decide) hf_59 (fun _ h9 => h9) rfl (by decide +kernel) rfl rfl (Nat.le_of_ble_eq_true rfl) dX3_charger_81 (fun H locs hP hD hS => ?_)
              have hP : va_P D vwCl (wM q k S (up2 Y 0 0 3)) H := sP_M0_0 hP
              have hD : va_D A (wM q k S (up2 Y 0 0 3)) := sD_M0_0 hD
              refine lv_aload_n hx hb dX3_charger_84 rfl (lv_at hl 1 rfl) ?_
              refine va_get (D := D) (v := .int (nI 3)) hx hb hts hin_X3 hown hX.1 hP 0 rfl rfl 0 (by decide) hf_59 (fun _ h9 => h9) rfl dX3_charger_85 ?_
              refine na_if_le (tgt := 93) hx hb (by omega) dX3_charger_88 (by decide) (fun h_88 => ?_) (fun h_88 => ?_)
              · exact absurd h_88 (by decide)
              · skip
                refine lv_iconst (v := nI 0) hx hb dX3_charger_91 (by decide) ?_
                exact W.iret (v := nI 0) hx hb hr (fun t ht hW => ⟨⟨_, (S, (up2 Y 0 0 3)), rfl, (have hc : cdC S x0 = 3 := cdC_3 (hp (by omega)) (by rw [hasCh, ← show i = S 0 3 by omega]; exact ha0 (by omega)) h_73; ⟨fun q => absurd (hc.symm.trans q) (by decide), (nS_n (by omega)).symm, by rw [hc, hY]; exact up2_up2 _ _ _ _ _⟩), by rw [ht]; exact hP, hD⟩, hS.F ht⟩) hS.2.2 dX3_charger_92
        · skip
          refine lv_aload_n hx hb dX3_charger_27 rfl (lv_at hl 1 rfl) ?_
          refine va_get (D := D) (v := .int (nI (Y 0 0))) hx hb hts hin_X3 hown hX.1 hP 0 rfl rfl 0 (by decide) hf_59 (fun _ h9 => h9) rfl dX3_charger_28 ?_
          refine na_if_ne (tgt := 59) hx hb (by omega) dX3_charger_31 (by decide) (fun h_31 => ?_) (fun h_31 => ?_)
          · skip
            refine lv_aload_n hx hb dX3_charger_59 rfl (lv_at hl 1 rfl) ?_
            refine va_get (D := D) (v := .int (nI (Y 0 0))) hx hb hts hin_X3 hown hX.1 hP 0 rfl rfl 0 (by decide) hf_59 (fun _ h9 => h9) rfl dX3_charger_60 ?_
            refine na_if_ne (tgt := 84) hx hb (by omega) dX3_charger_63 (by decide) (fun h_63 => ?_) (fun h_63 => ?_)
            · skip
              refine lv_aload_n hx hb dX3_charger_84 rfl (lv_at hl 1 rfl) ?_
              refine va_get (D := D) (v := .int (nI (Y 0 0))) hx hb hts hin_X3 hown hX.1 hP 0 rfl rfl 0 (by decide) hf_59 (fun _ h9 => h9) rfl dX3_charger_85 ?_
              refine na_if_le (tgt := 93) hx hb (by omega) dX3_charger_88 (by decide) (fun h_88 => ?_) (fun h_88 => ?_)
              · skip
                exact absurd h_88 (by omega)
              · skip
                refine lv_iconst (v := nI 0) hx hb dX3_charger_91 (by decide) ?_
                exact W.iret (v := nI 0) hx hb hr (fun t ht hW => ⟨⟨_, (S, Y), rfl, (have hc : cdC S x0 = cv := cdC_cv hv (by omega) hp hq ha2; ⟨fun q => absurd (hc.symm.trans q) (by omega), (nS_n (by omega)).symm, by rw [hc]; exact hY⟩), by rw [ht]; exact hP, hD⟩, hS.F ht⟩) hS.2.2 dX3_charger_92
            · skip
              refine lv_aload_n hx hb dX3_charger_66 rfl (lv_at hl 1 rfl) ?_
              refine lv_aload_n hx hb dX3_charger_67 rfl (lv_at hl 1 rfl) ?_
              refine va_get (D := D) (v := .int (nI (S 0 3))) hx hb hts hin_X3 hown hX.1 hP 0 rfl rfl 15 (by decide) hf_138 (fun _ h9 => h9) rfl dX3_charger_68 ?_
              refine lv_bipush (v := nI 8) hx hb dX3_charger_71 (by decide) ?_
              refine na_icmp_ne (tgt := 80) hx hb (by omega) (by omega) dX3_charger_73 (by decide) (fun h_73 => ?_) (fun h_73 => ?_)
              · skip
                refine lv_iconst (v := nI 0) hx hb dX3_charger_80 (by decide) ?_
                refine va_put (D := D) (v := .int (nI 0)) (ty := .int) hx hb hts hin_X3 tyX3 tyX3_ok nmX3 hown hX.1 hP hD hS 0 rfl rfl 0 (by decide) hf_59 (fun _ h9 => h9) rfl (by decide +kernel) rfl rfl (Nat.le_of_ble_eq_true rfl) dX3_charger_81 (fun H locs hP hD hS => ?_)
                have hP : va_P D vwCl (wM q k S (up2 Y 0 0 0)) H := sP_M0_0 hP
                have hD : va_D A (wM q k S (up2 Y 0 0 0)) := sD_M0_0 hD
                refine lv_aload_n hx hb dX3_charger_84 rfl (lv_at hl 1 rfl) ?_
                refine va_get (D := D) (v := .int (nI 0)) hx hb hts hin_X3 hown hX.1 hP 0 rfl rfl 0 (by decide) hf_59 (fun _ h9 => h9) rfl dX3_charger_85 ?_
                refine na_if_le (tgt := 93) hx hb (by omega) dX3_charger_88 (by decide) (fun h_88 => ?_) (fun h_88 => ?_)
                · skip
                  refine lv_aload_n hx hb dX3_charger_93 rfl (lv_at hl 1 rfl) ?_
                  refine va_get (D := D) (v := .ref (q 12)) hx hb hts hin_X3 hown hX.1 hP 0 rfl rfl 16 (by decide) hf_44 (fun _ h9 => h9) rfl dX3_charger_94 ?_
                  refine lv_aload_n hx hb dX3_charger_97 rfl (lv_at hl 1 rfl) ?_
                  refine va_get (D := D) (v := .int (nI (S 0 3))) hx hb hts hin_X3 hown hX.1 hP 0 rfl rfl 15 (by decide) hf_138 (fun _ h9 => h9) rfl dX3_charger_98 ?_
                  refine lv_iload_n hx hb dX3_charger_101 rfl (lv_at hl 2 rfl) ?_
                  refine na_as (y := nI (iN x0)) (iN_eq (hp (by omega)).1) ?_
                  refine na_iast hx hb hX.1 hP hD hS 12 0 rfl rfl (by omega) (by decide) (upd_enc nI _ _ _) dX3_charger_102 (fun H locs hP hD hS => ?_)
                  have hP : va_P D vwCl (wM q k (up2 S 12 (S 0 3) (iN x0)) (up2 Y 0 0 0)) H := sP_M12 hP
                  have hD : va_D A (wM q k (up2 S 12 (S 0 3) (iN x0)) (up2 Y 0 0 0)) := sD_M12 hD
                  refine lv_aload_n hx hb dX3_charger_103 rfl (lv_at hl 1 rfl) ?_
                  refine lv_dup hx hb dX3_charger_104 rfl ?_
                  refine va_get (D := D) (v := .int (nI (S 0 3))) hx hb hts hin_X3 hown hX.1 hP 0 rfl rfl 15 (by decide) hf_138 (fun _ h9 => h9) rfl dX3_charger_105 ?_
                  refine lv_iconst (v := nI 1) hx hb dX3_charger_108 (by decide) ?_
                  refine na_iadd hx hb dX3_charger_109 ?_
                  refine va_put (D := D) (v := .int (nI ((S 0 3) + 1))) (ty := .int) hx hb hts hin_X3 tyX3 tyX3_ok nmX3 hown hX.1 hP hD hS 0 rfl rfl 15 (by decide) hf_138 (fun _ h9 => h9) rfl (by decide +kernel) rfl rfl (Nat.le_of_ble_eq_true rfl) dX3_charger_110 (fun H locs hP hD hS => ?_)
                  have hP : va_P D vwCl (wM q k (up2 (up2 S 12 (S 0 3) (iN x0)) 0 3 ((S 0 3) + 1)) (up2 Y 0 0 0)) H := sP_M0_15 hP
                  have hD : va_D A (wM q k (up2 (up2 S 12 (S 0 3) (iN x0)) 0 3 ((S 0 3) + 1)) (up2 Y 0 0 0)) := sD_M0_15 hD
                  refine lv_aload_n hx hb dX3_charger_113 rfl (lv_at hl 1 rfl) ?_
                  refine lv_dup hx hb dX3_charger_114 rfl ?_
                  refine va_get (D := D) (v := .int (nI (S 0 4))) hx hb hts hin_X3 hown hX.1 hP 0 rfl rfl 17 (by decide) hf_70 (fun _ h9 => h9) rfl dX3_charger_115 ?_
                  refine lv_iconst (v := nI 1) hx hb dX3_charger_118 (by decide) ?_
                  refine na_iadd hx hb dX3_charger_119 ?_
                  refine va_put (D := D) (v := .int (nI ((S 0 4) + 1))) (ty := .int) hx hb hts hin_X3 tyX3 tyX3_ok nmX3 hown hX.1 hP hD hS 0 rfl rfl 17 (by decide) hf_70 (fun _ h9 => h9) rfl (by decide +kernel) rfl rfl (Nat.le_of_ble_eq_true rfl) dX3_charger_120 (fun H locs hP hD hS => ?_)
                  have hP : va_P D vwCl (wM q k (up2 (up2 (up2 S 12 (S 0 3) (iN x0)) 0 3 ((S 0 3) + 1)) 0 4 ((S 0 4) + 1)) (up2 Y 0 0 0)) H := sP_M0_17 hP
                  have hD : va_D A (wM q k (up2 (up2 (up2 S 12 (S 0 3) (iN x0)) 0 3 ((S 0 3) + 1)) 0 4 ((S 0 4) + 1)) (up2 Y 0 0 0)) := sD_M0_17 hD
                  refine lv_aload_n hx hb dX3_charger_123 rfl (lv_at hl 1 rfl) ?_
                  refine va_get (D := D) (v := .int (nI ((S 0 3) + 1))) hx hb hts hin_X3 hown hX.1 hP 0 rfl rfl 15 (by decide) hf_138 (fun _ h9 => h9) rfl dX3_charger_124 ?_
                  exact W.iret (v := nI ((S 0 3) + 1)) hx hb hr (fun t ht hW => ⟨⟨_, ((up2 (up2 (up2 S 12 (S 0 3) (iN x0)) 0 3 ((S 0 3) + 1)) 0 4 ((S 0 4) + 1)), (up2 Y 0 0 0)), rfl, (have hc : cdC S x0 = 0 := cdC_0 (hp (by omega)) (by rw [hasCh, ← show i = S 0 3 by omega]; exact ha0 (by omega)) h_73; ⟨fun _ => rfl, (nS_0 hc).symm, by rw [hc, hY]; exact up2_up2 _ _ _ _ _⟩), by rw [ht]; exact hP, hD⟩, hS.F ht⟩) hS.2.2 dX3_charger_127
                · exact absurd h_88 (by decide)
              · skip
                refine lv_iconst (v := nI 3) hx hb dX3_charger_76 (by decide) ?_
                refine lv_goto (tgt := 81) hx hb dX3_charger_77 (by decide) ?_
                refine va_put (D := D) (v := .int (nI 3)) (ty := .int) hx hb hts hin_X3 tyX3 tyX3_ok nmX3 hown hX.1 hP hD hS 0 rfl rfl 0 (by decide) hf_59 (fun _ h9 => h9) rfl (by decide +kernel) rfl rfl (Nat.le_of_ble_eq_true rfl) dX3_charger_81 (fun H locs hP hD hS => ?_)
                have hP : va_P D vwCl (wM q k S (up2 Y 0 0 3)) H := sP_M0_0 hP
                have hD : va_D A (wM q k S (up2 Y 0 0 3)) := sD_M0_0 hD
                refine lv_aload_n hx hb dX3_charger_84 rfl (lv_at hl 1 rfl) ?_
                refine va_get (D := D) (v := .int (nI 3)) hx hb hts hin_X3 hown hX.1 hP 0 rfl rfl 0 (by decide) hf_59 (fun _ h9 => h9) rfl dX3_charger_85 ?_
                refine na_if_le (tgt := 93) hx hb (by omega) dX3_charger_88 (by decide) (fun h_88 => ?_) (fun h_88 => ?_)
                · exact absurd h_88 (by decide)
                · skip
                  refine lv_iconst (v := nI 0) hx hb dX3_charger_91 (by decide) ?_
                  exact W.iret (v := nI 0) hx hb hr (fun t ht hW => ⟨⟨_, (S, (up2 Y 0 0 3)), rfl, (have hc : cdC S x0 = 3 := cdC_3 (hp (by omega)) (by rw [hasCh, ← show i = S 0 3 by omega]; exact ha0 (by omega)) h_73; ⟨fun q => absurd (hc.symm.trans q) (by decide), (nS_n (by omega)).symm, by rw [hc, hY]; exact up2_up2 _ _ _ _ _⟩), by rw [ht]; exact hP, hD⟩, hS.F ht⟩) hS.2.2 dX3_charger_92
          · skip
            refine lv_aload_n hx hb dX3_charger_34 rfl (lv_at hl 1 rfl) ?_
            refine lv_aload_n hx hb dX3_charger_35 rfl (lv_at hl 1 rfl) ?_
            refine va_get (D := D) (v := .ref (q 12)) hx hb hts hin_X3 hown hX.1 hP 0 rfl rfl 16 (by decide) hf_44 (fun _ h9 => h9) rfl dX3_charger_36 ?_
            refine lv_iload_n hx hb dX3_charger_39 rfl (lv_at hl 0 rfl) ?_
            refine na_iald hx hb hX.1 hP 12 0 rfl rfl (by omega) (by decide) dX3_charger_40 ?_
            refine lv_iload_n hx hb dX3_charger_41 rfl (lv_at hl 2 rfl) ?_
            refine na_as (y := nI (iN x0)) (iN_eq (hp (by omega)).1) ?_
            refine na_icmp_ne (tgt := 49) hx hb (by omega) (by omega) dX3_charger_42 (by decide) (fun h_42 => ?_) (fun h_42 => ?_)
            · skip
              refine lv_iconst (v := nI 0) hx hb dX3_charger_49 (by decide) ?_
              refine va_put (D := D) (v := .int (nI 0)) (ty := .int) hx hb hts hin_X3 tyX3 tyX3_ok nmX3 hown hX.1 hP hD hS 0 rfl rfl 0 (by decide) hf_59 (fun _ h9 => h9) rfl (by decide +kernel) rfl rfl (Nat.le_of_ble_eq_true rfl) dX3_charger_50 (fun H locs hP hD hS => ?_)
              have hP : va_P D vwCl (wM q k S (up2 Y 0 0 0)) H := sP_M0_0 hP
              have hD : va_D A (wM q k S (up2 Y 0 0 0)) := sD_M0_0 hD
              refine lv_iinc (v := nI (i + 1)) (lv' := [(2, .int (nI (i + 1))), (0, .ref (q 0)), (1, .int x0)]) hx hb dX3_charger_53 hl (k := 0) rfl (nI_add _ 1) (by decide) rfl (fun ls hl => ?_)
              refine lv_goto (tgt := 19) hx hb dX3_charger_56 (by decide) ?_
              exact ih19 (i + 1) 0 ((up2 Y 0 0 0)) (by omega) (by omega) (by rw [hY]; exact up2_up2 _ _ _ _ _) (by omega) (fun _ => hp (by omega)) (fun z => absurd z (by decide)) (fun z => by first | exact absurd z (by decide) | exact anyB_s (ha0 (by omega)) (decide_eq_false h_42)) (fun z => by first | exact absurd z (by decide) | exact anyB_t (i := i) (decide_eq_true h_42) h_24) _ _ hP hD hS ls hl
            · skip
              refine lv_iconst (v := nI 2) hx hb dX3_charger_45 (by decide) ?_
              refine lv_goto (tgt := 50) hx hb dX3_charger_46 (by decide) ?_
              refine va_put (D := D) (v := .int (nI 2)) (ty := .int) hx hb hts hin_X3 tyX3 tyX3_ok nmX3 hown hX.1 hP hD hS 0 rfl rfl 0 (by decide) hf_59 (fun _ h9 => h9) rfl (by decide +kernel) rfl rfl (Nat.le_of_ble_eq_true rfl) dX3_charger_50 (fun H locs hP hD hS => ?_)
              have hP : va_P D vwCl (wM q k S (up2 Y 0 0 2)) H := sP_M0_0 hP
              have hD : va_D A (wM q k S (up2 Y 0 0 2)) := sD_M0_0 hD
              refine lv_iinc (v := nI (i + 1)) (lv' := [(2, .int (nI (i + 1))), (0, .ref (q 0)), (1, .int x0)]) hx hb dX3_charger_53 hl (k := 0) rfl (nI_add _ 1) (by decide) rfl (fun ls hl => ?_)
              refine lv_goto (tgt := 19) hx hb dX3_charger_56 (by decide) ?_
              exact ih19 (i + 1) 2 ((up2 Y 0 0 2)) (by omega) (by omega) (by rw [hY]; exact up2_up2 _ _ _ _ _) (by omega) (fun _ => hp (by omega)) (fun z => absurd z (by decide)) (fun z => by first | exact absurd z (by decide) | exact anyB_s (ha0 (by omega)) (decide_eq_false h_42)) (fun z => by first | exact absurd z (by decide) | exact anyB_t (i := i) (decide_eq_true h_42) h_24) _ _ hP hD hS ls hl
    exact L19 (S 0 3 + 1) 0 0 ((up2 Z 0 0 0)) (by omega) (by omega) rfl (by omega) (fun z => by first | exact isp_t h_6 | exact absurd rfl z) (fun z => by first | exact isp_f h_6 | exact absurd z (by decide)) (fun _ => rfl) (fun z => absurd z (by decide)) _ _ hP hD hS ls hl
  · skip
    refine lv_iconst (v := nI 1) hx hb dX3_charger_9 (by decide) ?_
    refine lv_goto (tgt := 14) hx hb dX3_charger_10 (by decide) ?_
    refine va_put (D := D) (v := .int (nI 1)) (ty := .int) hx hb hts hin_X3 tyX3 tyX3_ok nmX3 hown hX.1 hP hD hS 0 rfl rfl 0 (by decide) hf_59 (fun _ h9 => h9) rfl (by decide +kernel) rfl rfl (Nat.le_of_ble_eq_true rfl) dX3_charger_14 (fun H locs hP hD hS => ?_)
    have hP : va_P D vwCl (wM q k S (up2 Z 0 0 1)) H := sP_M0_0 hP
    have hD : va_D A (wM q k S (up2 Z 0 0 1)) := sD_M0_0 hD
    refine lv_iconst (v := nI 0) hx hb dX3_charger_17 (by decide) ?_
    refine lv_istore_n (lv' := [(2, .int (nI 0)), (0, .ref (q 0)), (1, .int x0)]) hx hb dX3_charger_18 rfl hl (by decide) rfl (fun ls hl => ?_)
    have L19 : ∀ (n19 : Nat) (i : Nat) (cv : Nat) (Y : Nat → Nat → Nat), (S 0 3 < i + n19) → (h1 : i ≤ S 0 3) → (hY : Y = up2 Z 0 0 cv) → (hv : cv = 0 ∨ cv = 1 ∨ cv = 2) → (hp : cv ≠ 1 → 0 ≤ x0.toInt ∧ x0.toInt < (S 0 0 : Int)) → (hq : cv = 1 → ¬ (0 ≤ x0.toInt ∧ x0.toInt < (S 0 0 : Int))) → (ha0 : cv = 0 → anyB (fun j => decide (S 12 j = iN x0)) i = false) → (ha2 : cv = 2 → hasCh S (iN x0) = true) → ∀ (H : Heap) (locs : List Loc), va_P D vwCl (wM q k S Y) H → va_D A (wM q k S Y) → va_S A s.heap H locs → ∀ (ls : Array Slot), lv_has ls 3 [(2, .int (nI i)), (0, .ref (q 0)), (1, .int x0)] → W p l e (headSpec wsX3_charger ({ frames := 2, cells := 0, slots := 0, locals := 43 } : Room)).room s m [.ref (q 0), .int x0].toArray below meth c H locs 0 0 (MQ below (va_Qi (fun (r : Int32) (u : (Nat → Nat → Nat) × (Nat → Nat → Nat)) => (cdC S x0 = 0 → r = nI (S 0 3 + 1)) ∧ u.1 = nS (cdC S x0) S (chS S (iN x0)) ∧ u.2 = up2 Z 0 0 (cdC S x0)) (fun u t => wE D (A) (wM q k u.1 u.2) t) (A)) [.ref (q 0), .int x0].toArray s 0 0 A) (F0 m 19 ls []) := by
      intro n19
      induction n19 with
      | zero =>
        intro i cv Y hfuel19 h1 hY hv hp hq ha0 ha2 H locs hP hD hS ls hl
        exact absurd hfuel19 (by omega)
      | succ n19 ih19 =>
        intro i cv Y hfuel19 h1 hY hv hp hq ha0 ha2 H locs hP hD hS ls hl
        have f1 := hB.2.2.2.2 i
        have hY0 : Y 0 0 = cv := by rw [hY]; exact up2_same _ _ _ _
        have j0 : (cv ≠ 1) → (iN x0 : Int) = x0.toInt := fun z => iN_toInt (hp z).1
        refine lv_iload_n hx hb dX3_charger_19 rfl (lv_at hl 0 rfl) ?_
        refine lv_aload_n hx hb dX3_charger_20 rfl (lv_at hl 1 rfl) ?_
        refine va_get (D := D) (v := .int (nI (S 0 3))) hx hb hts hin_X3 hown hX.1 hP 0 rfl rfl 15 (by decide) hf_138 (fun _ h9 => h9) rfl dX3_charger_21 ?_
        refine na_icmp_ge (tgt := 59) hx hb (by omega) (by omega) dX3_charger_24 (by decide) (fun h_24 => ?_) (fun h_24 => ?_)
        · skip
          refine lv_aload_n hx hb dX3_charger_59 rfl (lv_at hl 1 rfl) ?_
          refine va_get (D := D) (v := .int (nI (Y 0 0))) hx hb hts hin_X3 hown hX.1 hP 0 rfl rfl 0 (by decide) hf_59 (fun _ h9 => h9) rfl dX3_charger_60 ?_
          refine na_if_ne (tgt := 84) hx hb (by omega) dX3_charger_63 (by decide) (fun h_63 => ?_) (fun h_63 => ?_)
          · skip
            refine lv_aload_n hx hb dX3_charger_84 rfl (lv_at hl 1 rfl) ?_
            refine va_get (D := D) (v := .int (nI (Y 0 0))) hx hb hts hin_X3 hown hX.1 hP 0 rfl rfl 0 (by decide) hf_59 (fun _ h9 => h9) rfl dX3_charger_85 ?_
            refine na_if_le (tgt := 93) hx hb (by omega) dX3_charger_88 (by decide) (fun h_88 => ?_) (fun h_88 => ?_)
            · skip
              exact absurd h_88 (by omega)
            · skip
              refine lv_iconst (v := nI 0) hx hb dX3_charger_91 (by decide) ?_
              exact W.iret (v := nI 0) hx hb hr (fun t ht hW => ⟨⟨_, (S, Y), rfl, (have hc : cdC S x0 = cv := cdC_cv hv (by omega) hp hq ha2; ⟨fun q => absurd (hc.symm.trans q) (by omega), (nS_n (by omega)).symm, by rw [hc]; exact hY⟩), by rw [ht]; exact hP, hD⟩, hS.F ht⟩) hS.2.2 dX3_charger_92
          · skip
            refine lv_aload_n hx hb dX3_charger_66 rfl (lv_at hl 1 rfl) ?_
            refine lv_aload_n hx hb dX3_charger_67 rfl (lv_at hl 1 rfl) ?_
            refine va_get (D := D) (v := .int (nI (S 0 3))) hx hb hts hin_X3 hown hX.1 hP 0 rfl rfl 15 (by decide) hf_138 (fun _ h9 => h9) rfl dX3_charger_68 ?_
            refine lv_bipush (v := nI 8) hx hb dX3_charger_71 (by decide) ?_
            refine na_icmp_ne (tgt := 80) hx hb (by omega) (by omega) dX3_charger_73 (by decide) (fun h_73 => ?_) (fun h_73 => ?_)
            · skip
              refine lv_iconst (v := nI 0) hx hb dX3_charger_80 (by decide) ?_
              refine va_put (D := D) (v := .int (nI 0)) (ty := .int) hx hb hts hin_X3 tyX3 tyX3_ok nmX3 hown hX.1 hP hD hS 0 rfl rfl 0 (by decide) hf_59 (fun _ h9 => h9) rfl (by decide +kernel) rfl rfl (Nat.le_of_ble_eq_true rfl) dX3_charger_81 (fun H locs hP hD hS => ?_)
              have hP : va_P D vwCl (wM q k S (up2 Y 0 0 0)) H := sP_M0_0 hP
              have hD : va_D A (wM q k S (up2 Y 0 0 0)) := sD_M0_0 hD
              refine lv_aload_n hx hb dX3_charger_84 rfl (lv_at hl 1 rfl) ?_
              refine va_get (D := D) (v := .int (nI 0)) hx hb hts hin_X3 hown hX.1 hP 0 rfl rfl 0 (by decide) hf_59 (fun _ h9 => h9) rfl dX3_charger_85 ?_
              refine na_if_le (tgt := 93) hx hb (by omega) dX3_charger_88 (by decide) (fun h_88 => ?_) (fun h_88 => ?_)
              · skip
                refine lv_aload_n hx hb dX3_charger_93 rfl (lv_at hl 1 rfl) ?_
                refine va_get (D := D) (v := .ref (q 12)) hx hb hts hin_X3 hown hX.1 hP 0 rfl rfl 16 (by decide) hf_44 (fun _ h9 => h9) rfl dX3_charger_94 ?_
                refine lv_aload_n hx hb dX3_charger_97 rfl (lv_at hl 1 rfl) ?_
                refine va_get (D := D) (v := .int (nI (S 0 3))) hx hb hts hin_X3 hown hX.1 hP 0 rfl rfl 15 (by decide) hf_138 (fun _ h9 => h9) rfl dX3_charger_98 ?_
                refine lv_iload_n hx hb dX3_charger_101 rfl (lv_at hl 2 rfl) ?_
                refine na_as (y := nI (iN x0)) (iN_eq (hp (by omega)).1) ?_
                refine na_iast hx hb hX.1 hP hD hS 12 0 rfl rfl (by omega) (by decide) (upd_enc nI _ _ _) dX3_charger_102 (fun H locs hP hD hS => ?_)
                have hP : va_P D vwCl (wM q k (up2 S 12 (S 0 3) (iN x0)) (up2 Y 0 0 0)) H := sP_M12 hP
                have hD : va_D A (wM q k (up2 S 12 (S 0 3) (iN x0)) (up2 Y 0 0 0)) := sD_M12 hD
                refine lv_aload_n hx hb dX3_charger_103 rfl (lv_at hl 1 rfl) ?_
                refine lv_dup hx hb dX3_charger_104 rfl ?_
                refine va_get (D := D) (v := .int (nI (S 0 3))) hx hb hts hin_X3 hown hX.1 hP 0 rfl rfl 15 (by decide) hf_138 (fun _ h9 => h9) rfl dX3_charger_105 ?_
                refine lv_iconst (v := nI 1) hx hb dX3_charger_108 (by decide) ?_
                refine na_iadd hx hb dX3_charger_109 ?_
                refine va_put (D := D) (v := .int (nI ((S 0 3) + 1))) (ty := .int) hx hb hts hin_X3 tyX3 tyX3_ok nmX3 hown hX.1 hP hD hS 0 rfl rfl 15 (by decide) hf_138 (fun _ h9 => h9) rfl (by decide +kernel) rfl rfl (Nat.le_of_ble_eq_true rfl) dX3_charger_110 (fun H locs hP hD hS => ?_)
                have hP : va_P D vwCl (wM q k (up2 (up2 S 12 (S 0 3) (iN x0)) 0 3 ((S 0 3) + 1)) (up2 Y 0 0 0)) H := sP_M0_15 hP
                have hD : va_D A (wM q k (up2 (up2 S 12 (S 0 3) (iN x0)) 0 3 ((S 0 3) + 1)) (up2 Y 0 0 0)) := sD_M0_15 hD
                refine lv_aload_n hx hb dX3_charger_113 rfl (lv_at hl 1 rfl) ?_
                refine lv_dup hx hb dX3_charger_114 rfl ?_
                refine va_get (D := D) (v := .int (nI (S 0 4))) hx hb hts hin_X3 hown hX.1 hP 0 rfl rfl 17 (by decide) hf_70 (fun _ h9 => h9) rfl dX3_charger_115 ?_
                refine lv_iconst (v := nI 1) hx hb dX3_charger_118 (by decide) ?_
                refine na_iadd hx hb dX3_charger_119 ?_
                refine va_put (D := D) (v := .int (nI ((S 0 4) + 1))) (ty := .int) hx hb hts hin_X3 tyX3 tyX3_ok nmX3 hown hX.1 hP hD hS 0 rfl rfl 17 (by decide) hf_70 (fun _ h9 => h9) rfl (by decide +kernel) rfl rfl (Nat.le_of_ble_eq_true rfl) dX3_charger_120 (fun H locs hP hD hS => ?_)
                have hP : va_P D vwCl (wM q k (up2 (up2 (up2 S 12 (S 0 3) (iN x0)) 0 3 ((S 0 3) + 1)) 0 4 ((S 0 4) + 1)) (up2 Y 0 0 0)) H := sP_M0_17 hP
                have hD : va_D A (wM q k (up2 (up2 (up2 S 12 (S 0 3) (iN x0)) 0 3 ((S 0 3) + 1)) 0 4 ((S 0 4) + 1)) (up2 Y 0 0 0)) := sD_M0_17 hD
                refine lv_aload_n hx hb dX3_charger_123 rfl (lv_at hl 1 rfl) ?_
                refine va_get (D := D) (v := .int (nI ((S 0 3) + 1))) hx hb hts hin_X3 hown hX.1 hP 0 rfl rfl 15 (by decide) hf_138 (fun _ h9 => h9) rfl dX3_charger_124 ?_
                exact W.iret (v := nI ((S 0 3) + 1)) hx hb hr (fun t ht hW => ⟨⟨_, ((up2 (up2 (up2 S 12 (S 0 3) (iN x0)) 0 3 ((S 0 3) + 1)) 0 4 ((S 0 4) + 1)), (up2 Y 0 0 0)), rfl, (have hc : cdC S x0 = 0 := cdC_0 (hp (by omega)) (by rw [hasCh, ← show i = S 0 3 by omega]; exact ha0 (by omega)) h_73; ⟨fun _ => rfl, (nS_0 hc).symm, by rw [hc, hY]; exact up2_up2 _ _ _ _ _⟩), by rw [ht]; exact hP, hD⟩, hS.F ht⟩) hS.2.2 dX3_charger_127
              · exact absurd h_88 (by decide)
            · skip
              refine lv_iconst (v := nI 3) hx hb dX3_charger_76 (by decide) ?_
              refine lv_goto (tgt := 81) hx hb dX3_charger_77 (by decide) ?_
              refine va_put (D := D) (v := .int (nI 3)) (ty := .int) hx hb hts hin_X3 tyX3 tyX3_ok nmX3 hown hX.1 hP hD hS 0 rfl rfl 0 (by decide) hf_59 (fun _ h9 => h9) rfl (by decide +kernel) rfl rfl (Nat.le_of_ble_eq_true rfl) dX3_charger_81 (fun H locs hP hD hS => ?_)
              have hP : va_P D vwCl (wM q k S (up2 Y 0 0 3)) H := sP_M0_0 hP
              have hD : va_D A (wM q k S (up2 Y 0 0 3)) := sD_M0_0 hD
              refine lv_aload_n hx hb dX3_charger_84 rfl (lv_at hl 1 rfl) ?_
              refine va_get (D := D) (v := .int (nI 3)) hx hb hts hin_X3 hown hX.1 hP 0 rfl rfl 0 (by decide) hf_59 (fun _ h9 => h9) rfl dX3_charger_85 ?_
              refine na_if_le (tgt := 93) hx hb (by omega) dX3_charger_88 (by decide) (fun h_88 => ?_) (fun h_88 => ?_)
              · exact absurd h_88 (by decide)
              · skip
                refine lv_iconst (v := nI 0) hx hb dX3_charger_91 (by decide) ?_
                exact W.iret (v := nI 0) hx hb hr (fun t ht hW => ⟨⟨_, (S, (up2 Y 0 0 3)), rfl, (have hc : cdC S x0 = 3 := cdC_3 (hp (by omega)) (by rw [hasCh, ← show i = S 0 3 by omega]; exact ha0 (by omega)) h_73; ⟨fun q => absurd (hc.symm.trans q) (by decide), (nS_n (by omega)).symm, by rw [hc, hY]; exact up2_up2 _ _ _ _ _⟩), by rw [ht]; exact hP, hD⟩, hS.F ht⟩) hS.2.2 dX3_charger_92
        · skip
          refine lv_aload_n hx hb dX3_charger_27 rfl (lv_at hl 1 rfl) ?_
          refine va_get (D := D) (v := .int (nI (Y 0 0))) hx hb hts hin_X3 hown hX.1 hP 0 rfl rfl 0 (by decide) hf_59 (fun _ h9 => h9) rfl dX3_charger_28 ?_
          refine na_if_ne (tgt := 59) hx hb (by omega) dX3_charger_31 (by decide) (fun h_31 => ?_) (fun h_31 => ?_)
          · skip
            refine lv_aload_n hx hb dX3_charger_59 rfl (lv_at hl 1 rfl) ?_
            refine va_get (D := D) (v := .int (nI (Y 0 0))) hx hb hts hin_X3 hown hX.1 hP 0 rfl rfl 0 (by decide) hf_59 (fun _ h9 => h9) rfl dX3_charger_60 ?_
            refine na_if_ne (tgt := 84) hx hb (by omega) dX3_charger_63 (by decide) (fun h_63 => ?_) (fun h_63 => ?_)
            · skip
              refine lv_aload_n hx hb dX3_charger_84 rfl (lv_at hl 1 rfl) ?_
              refine va_get (D := D) (v := .int (nI (Y 0 0))) hx hb hts hin_X3 hown hX.1 hP 0 rfl rfl 0 (by decide) hf_59 (fun _ h9 => h9) rfl dX3_charger_85 ?_
              refine na_if_le (tgt := 93) hx hb (by omega) dX3_charger_88 (by decide) (fun h_88 => ?_) (fun h_88 => ?_)
              · skip
                exact absurd h_88 (by omega)
              · skip
                refine lv_iconst (v := nI 0) hx hb dX3_charger_91 (by decide) ?_
                exact W.iret (v := nI 0) hx hb hr (fun t ht hW => ⟨⟨_, (S, Y), rfl, (have hc : cdC S x0 = cv := cdC_cv hv (by omega) hp hq ha2; ⟨fun q => absurd (hc.symm.trans q) (by omega), (nS_n (by omega)).symm, by rw [hc]; exact hY⟩), by rw [ht]; exact hP, hD⟩, hS.F ht⟩) hS.2.2 dX3_charger_92
            · skip
              refine lv_aload_n hx hb dX3_charger_66 rfl (lv_at hl 1 rfl) ?_
              refine lv_aload_n hx hb dX3_charger_67 rfl (lv_at hl 1 rfl) ?_
              refine va_get (D := D) (v := .int (nI (S 0 3))) hx hb hts hin_X3 hown hX.1 hP 0 rfl rfl 15 (by decide) hf_138 (fun _ h9 => h9) rfl dX3_charger_68 ?_
              refine lv_bipush (v := nI 8) hx hb dX3_charger_71 (by decide) ?_
              refine na_icmp_ne (tgt := 80) hx hb (by omega) (by omega) dX3_charger_73 (by decide) (fun h_73 => ?_) (fun h_73 => ?_)
              · skip
                refine lv_iconst (v := nI 0) hx hb dX3_charger_80 (by decide) ?_
                refine va_put (D := D) (v := .int (nI 0)) (ty := .int) hx hb hts hin_X3 tyX3 tyX3_ok nmX3 hown hX.1 hP hD hS 0 rfl rfl 0 (by decide) hf_59 (fun _ h9 => h9) rfl (by decide +kernel) rfl rfl (Nat.le_of_ble_eq_true rfl) dX3_charger_81 (fun H locs hP hD hS => ?_)
                have hP : va_P D vwCl (wM q k S (up2 Y 0 0 0)) H := sP_M0_0 hP
                have hD : va_D A (wM q k S (up2 Y 0 0 0)) := sD_M0_0 hD
                refine lv_aload_n hx hb dX3_charger_84 rfl (lv_at hl 1 rfl) ?_
                refine va_get (D := D) (v := .int (nI 0)) hx hb hts hin_X3 hown hX.1 hP 0 rfl rfl 0 (by decide) hf_59 (fun _ h9 => h9) rfl dX3_charger_85 ?_
                refine na_if_le (tgt := 93) hx hb (by omega) dX3_charger_88 (by decide) (fun h_88 => ?_) (fun h_88 => ?_)
                · skip
                  refine lv_aload_n hx hb dX3_charger_93 rfl (lv_at hl 1 rfl) ?_
                  refine va_get (D := D) (v := .ref (q 12)) hx hb hts hin_X3 hown hX.1 hP 0 rfl rfl 16 (by decide) hf_44 (fun _ h9 => h9) rfl dX3_charger_94 ?_
                  refine lv_aload_n hx hb dX3_charger_97 rfl (lv_at hl 1 rfl) ?_
                  refine va_get (D := D) (v := .int (nI (S 0 3))) hx hb hts hin_X3 hown hX.1 hP 0 rfl rfl 15 (by decide) hf_138 (fun _ h9 => h9) rfl dX3_charger_98 ?_
                  refine lv_iload_n hx hb dX3_charger_101 rfl (lv_at hl 2 rfl) ?_
                  refine na_as (y := nI (iN x0)) (iN_eq (hp (by omega)).1) ?_
                  refine na_iast hx hb hX.1 hP hD hS 12 0 rfl rfl (by omega) (by decide) (upd_enc nI _ _ _) dX3_charger_102 (fun H locs hP hD hS => ?_)
                  have hP : va_P D vwCl (wM q k (up2 S 12 (S 0 3) (iN x0)) (up2 Y 0 0 0)) H := sP_M12 hP
                  have hD : va_D A (wM q k (up2 S 12 (S 0 3) (iN x0)) (up2 Y 0 0 0)) := sD_M12 hD
                  refine lv_aload_n hx hb dX3_charger_103 rfl (lv_at hl 1 rfl) ?_
                  refine lv_dup hx hb dX3_charger_104 rfl ?_
                  refine va_get (D := D) (v := .int (nI (S 0 3))) hx hb hts hin_X3 hown hX.1 hP 0 rfl rfl 15 (by decide) hf_138 (fun _ h9 => h9) rfl dX3_charger_105 ?_
                  refine lv_iconst (v := nI 1) hx hb dX3_charger_108 (by decide) ?_
                  refine na_iadd hx hb dX3_charger_109 ?_
                  refine va_put (D := D) (v := .int (nI ((S 0 3) + 1))) (ty := .int) hx hb hts hin_X3 tyX3 tyX3_ok nmX3 hown hX.1 hP hD hS 0 rfl rfl 15 (by decide) hf_138 (fun _ h9 => h9) rfl (by decide +kernel) rfl rfl (Nat.le_of_ble_eq_true rfl) dX3_charger_110 (fun H locs hP hD hS => ?_)
                  have hP : va_P D vwCl (wM q k (up2 (up2 S 12 (S 0 3) (iN x0)) 0 3 ((S 0 3) + 1)) (up2 Y 0 0 0)) H := sP_M0_15 hP
                  have hD : va_D A (wM q k (up2 (up2 S 12 (S 0 3) (iN x0)) 0 3 ((S 0 3) + 1)) (up2 Y 0 0 0)) := sD_M0_15 hD
                  refine lv_aload_n hx hb dX3_charger_113 rfl (lv_at hl 1 rfl) ?_
                  refine lv_dup hx hb dX3_charger_114 rfl ?_
                  refine va_get (D := D) (v := .int (nI (S 0 4))) hx hb hts hin_X3 hown hX.1 hP 0 rfl rfl 17 (by decide) hf_70 (fun _ h9 => h9) rfl dX3_charger_115 ?_
                  refine lv_iconst (v := nI 1) hx hb dX3_charger_118 (by decide) ?_
                  refine na_iadd hx hb dX3_charger_119 ?_
                  refine va_put (D := D) (v := .int (nI ((S 0 4) + 1))) (ty := .int) hx hb hts hin_X3 tyX3 tyX3_ok nmX3 hown hX.1 hP hD hS 0 rfl rfl 17 (by decide) hf_70 (fun _ h9 => h9) rfl (by decide +kernel) rfl rfl (Nat.le_of_ble_eq_true rfl) dX3_charger_120 (fun H locs hP hD hS => ?_)
                  have hP : va_P D vwCl (wM q k (up2 (up2 (up2 S 12 (S 0 3) (iN x0)) 0 3 ((S 0 3) + 1)) 0 4 ((S 0 4) + 1)) (up2 Y 0 0 0)) H := sP_M0_17 hP
                  have hD : va_D A (wM q k (up2 (up2 (up2 S 12 (S 0 3) (iN x0)) 0 3 ((S 0 3) + 1)) 0 4 ((S 0 4) + 1)) (up2 Y 0 0 0)) := sD_M0_17 hD
                  refine lv_aload_n hx hb dX3_charger_123 rfl (lv_at hl 1 rfl) ?_
                  refine va_get (D := D) (v := .int (nI ((S 0 3) + 1))) hx hb hts hin_X3 hown hX.1 hP 0 rfl rfl 15 (by decide) hf_138 (fun _ h9 => h9) rfl dX3_charger_124 ?_
                  exact W.iret (v := nI ((S 0 3) + 1)) hx hb hr (fun t ht hW => ⟨⟨_, ((up2 (up2 (up2 S 12 (S 0 3) (iN x0)) 0 3 ((S 0 3) + 1)) 0 4 ((S 0 4) + 1)), (up2 Y 0 0 0)), rfl, (have hc : cdC S x0 = 0 := cdC_0 (hp (by omega)) (by rw [hasCh, ← show i = S 0 3 by omega]; exact ha0 (by omega)) h_73; ⟨fun _ => rfl, (nS_0 hc).symm, by rw [hc, hY]; exact up2_up2 _ _ _ _ _⟩), by rw [ht]; exact hP, hD⟩, hS.F ht⟩) hS.2.2 dX3_charger_127
                · exact absurd h_88 (by decide)
              · skip
                refine lv_iconst (v := nI 3) hx hb dX3_charger_76 (by decide) ?_
                refine lv_goto (tgt := 81) hx hb dX3_charger_77 (by decide) ?_
                refine va_put (D := D) (v := .int (nI 3)) (ty := .int) hx hb hts hin_X3 tyX3 tyX3_ok nmX3 hown hX.1 hP hD hS 0 rfl rfl 0 (by decide) hf_59 (fun _ h9 => h9) rfl (by decide +kernel) rfl rfl (Nat.le_of_ble_eq_true rfl) dX3_charger_81 (fun H locs hP hD hS => ?_)
                have hP : va_P D vwCl (wM q k S (up2 Y 0 0 3)) H := sP_M0_0 hP
                have hD : va_D A (wM q k S (up2 Y 0 0 3)) := sD_M0_0 hD
                refine lv_aload_n hx hb dX3_charger_84 rfl (lv_at hl 1 rfl) ?_
                refine va_get (D := D) (v := .int (nI 3)) hx hb hts hin_X3 hown hX.1 hP 0 rfl rfl 0 (by decide) hf_59 (fun _ h9 => h9) rfl dX3_charger_85 ?_
                refine na_if_le (tgt := 93) hx hb (by omega) dX3_charger_88 (by decide) (fun h_88 => ?_) (fun h_88 => ?_)
                · exact absurd h_88 (by decide)
                · skip
                  refine lv_iconst (v := nI 0) hx hb dX3_charger_91 (by decide) ?_
                  exact W.iret (v := nI 0) hx hb hr (fun t ht hW => ⟨⟨_, (S, (up2 Y 0 0 3)), rfl, (have hc : cdC S x0 = 3 := cdC_3 (hp (by omega)) (by rw [hasCh, ← show i = S 0 3 by omega]; exact ha0 (by omega)) h_73; ⟨fun q => absurd (hc.symm.trans q) (by decide), (nS_n (by omega)).symm, by rw [hc, hY]; exact up2_up2 _ _ _ _ _⟩), by rw [ht]; exact hP, hD⟩, hS.F ht⟩) hS.2.2 dX3_charger_92
          · skip
            refine lv_aload_n hx hb dX3_charger_34 rfl (lv_at hl 1 rfl) ?_
            refine lv_aload_n hx hb dX3_charger_35 rfl (lv_at hl 1 rfl) ?_
            refine va_get (D := D) (v := .ref (q 12)) hx hb hts hin_X3 hown hX.1 hP 0 rfl rfl 16 (by decide) hf_44 (fun _ h9 => h9) rfl dX3_charger_36 ?_
            refine lv_iload_n hx hb dX3_charger_39 rfl (lv_at hl 0 rfl) ?_
            refine na_iald hx hb hX.1 hP 12 0 rfl rfl (by omega) (by decide) dX3_charger_40 ?_
            refine lv_iload_n hx hb dX3_charger_41 rfl (lv_at hl 2 rfl) ?_
            refine na_as (y := nI (iN x0)) (iN_eq (hp (by omega)).1) ?_
            refine na_icmp_ne (tgt := 49) hx hb (by omega) (by omega) dX3_charger_42 (by decide) (fun h_42 => ?_) (fun h_42 => ?_)
            · skip
              refine lv_iconst (v := nI 0) hx hb dX3_charger_49 (by decide) ?_
              refine va_put (D := D) (v := .int (nI 0)) (ty := .int) hx hb hts hin_X3 tyX3 tyX3_ok nmX3 hown hX.1 hP hD hS 0 rfl rfl 0 (by decide) hf_59 (fun _ h9 => h9) rfl (by decide +kernel) rfl rfl (Nat.le_of_ble_eq_true rfl) dX3_charger_50 (fun H locs hP hD hS => ?_)
              have hP : va_P D vwCl (wM q k S (up2 Y 0 0 0)) H := sP_M0_0 hP
              have hD : va_D A (wM q k S (up2 Y 0 0 0)) := sD_M0_0 hD
              refine lv_iinc (v := nI (i + 1)) (lv' := [(2, .int (nI (i + 1))), (0, .ref (q 0)), (1, .int x0)]) hx hb dX3_charger_53 hl (k := 0) rfl (nI_add _ 1) (by decide) rfl (fun ls hl => ?_)
              refine lv_goto (tgt := 19) hx hb dX3_charger_56 (by decide) ?_
              exact ih19 (i + 1) 0 ((up2 Y 0 0 0)) (by omega) (by omega) (by rw [hY]; exact up2_up2 _ _ _ _ _) (by omega) (fun _ => hp (by omega)) (fun z => absurd z (by decide)) (fun z => by first | exact absurd z (by decide) | exact anyB_s (ha0 (by omega)) (decide_eq_false h_42)) (fun z => by first | exact absurd z (by decide) | exact anyB_t (i := i) (decide_eq_true h_42) h_24) _ _ hP hD hS ls hl
            · skip
              refine lv_iconst (v := nI 2) hx hb dX3_charger_45 (by decide) ?_
              refine lv_goto (tgt := 50) hx hb dX3_charger_46 (by decide) ?_
              refine va_put (D := D) (v := .int (nI 2)) (ty := .int) hx hb hts hin_X3 tyX3 tyX3_ok nmX3 hown hX.1 hP hD hS 0 rfl rfl 0 (by decide) hf_59 (fun _ h9 => h9) rfl (by decide +kernel) rfl rfl (Nat.le_of_ble_eq_true rfl) dX3_charger_50 (fun H locs hP hD hS => ?_)
              have hP : va_P D vwCl (wM q k S (up2 Y 0 0 2)) H := sP_M0_0 hP
              have hD : va_D A (wM q k S (up2 Y 0 0 2)) := sD_M0_0 hD
              refine lv_iinc (v := nI (i + 1)) (lv' := [(2, .int (nI (i + 1))), (0, .ref (q 0)), (1, .int x0)]) hx hb dX3_charger_53 hl (k := 0) rfl (nI_add _ 1) (by decide) rfl (fun ls hl => ?_)
              refine lv_goto (tgt := 19) hx hb dX3_charger_56 (by decide) ?_
              exact ih19 (i + 1) 2 ((up2 Y 0 0 2)) (by omega) (by omega) (by rw [hY]; exact up2_up2 _ _ _ _ _) (by omega) (fun _ => hp (by omega)) (fun z => absurd z (by decide)) (fun z => by first | exact absurd z (by decide) | exact anyB_s (ha0 (by omega)) (decide_eq_false h_42)) (fun z => by first | exact absurd z (by decide) | exact anyB_t (i := i) (decide_eq_true h_42) h_24) _ _ hP hD hS ls hl
    exact L19 (S 0 3 + 1) 0 1 ((up2 Z 0 0 1)) (by omega) (by omega) rfl (by omega) (fun z => by first | exact isp_t h_6 | exact absurd rfl z) (fun z => by first | exact isp_f h_6 | exact absurd z (by decide)) (fun _ => rfl) (fun z => absurd z (by decide)) _ _ hP hD hS ls hl

set_option maxHeartbeats 4000000 in
set_option maxRecDepth 100000 in
theorem k_X3_rows (l : Launch) (D : va_G) (q : Nat → Nat) (k : Nat → ClassId) (S Z : Nat → Nat → Nat) (sz : Nat) : Met l yX3_rows wsX3_rows ({ frames := 0, cells := 0, slots := 0, locals := 0 } : Room) (va_Pc [.ref (q 0)] (wB D k (wM q k S Z) sz)) (va_Qi (fun (r : Int32) (u : (Nat → Nat → Nat) × (Nat → Nat → Nat)) => r = nI (S 0 5) ∧ u.1 = S ∧ u.2 = up2 Z 0 0 0) (fun u t => wE D (va_A (wM q k S Z) sz) (wM q k u.1 u.2) t) (va_A (wM q k S Z) sz)) 0 0 (va_A (wM q k S Z) sz) := by
  refine Met.ofW (cc := cX3_rows) (maxL := 1) (ret := (some .int)) (by decide) rfl ?_
  intro p e s m args below meth c s₁ B hml hv
  obtain ⟨rfl, hsz, hP, hX, hD0⟩ := hv
  have hx := B.exec
  have hb := B.bytes
  have hr := B.returns
  have hts := atoms_spec (ws := wsX3_rows) B.pre
  have hown : s.vm.findClass RX3 = some m.cls := findClass_of_methodNamed B.named
  have hlocks := B.notSynchronized
  subst hsz
  have hD := hD0.self (sz := s.heap.size)
  generalize hAe : va_A (wM q k S Z) s.heap.size = A at hD ⊢
  have hA : ∀ q : Nat, s.heap.size ≤ q → A q := fun q h => by rw [← hAe]; exact Or.inr h
  have hS : va_S A s.heap s.heap [] := va_S.rf
  have hP : va_P D vwCl (wM q k S Z) s.heap := hP
  have hf_59 := hts (.fieldLink RX3 59 "FloorGraphModel" "code" "I") (by decide +kernel)
  have hf_141 := hts (.fieldLink RX3 141 "FloorGraphModel" "worked" "I") (by decide +kernel)
  have hin_X3 : ∀ w ∈ u_ws RX3 TX3 24, w ∈ wsX3_rows := by decide +kernel
  have hl := lv_entry ([.ref (q 0)]) (n := 1) (Nat.le_of_ble_eq_true rfl)
  rw [lg_entry_eq]
  generalize (lg_sl ([.ref (q 0)]) ++ List.replicate (1 - (lg_sl ([.ref (q 0)])).length) Slot.unset).toArray = ls at hl ⊢
  have hl : lv_has ls 1 [(0, .ref (q 0))] := hl
  refine lv_aload_n hx hb dX3_rows_0 rfl (lv_at hl 0 rfl) ?_
  refine lv_iconst (v := nI 0) hx hb dX3_rows_1 (by decide) ?_
  refine va_put (D := D) (v := .int (nI 0)) (ty := .int) hx hb hts hin_X3 tyX3 tyX3_ok nmX3 hown hX.1 hP hD hS 0 rfl rfl 0 (by decide) hf_59 (fun _ h9 => h9) rfl (by decide +kernel) rfl rfl (Nat.le_of_ble_eq_true rfl) dX3_rows_2 (fun H locs hP hD hS => ?_)
  have hP : va_P D vwCl (wM q k S (up2 Z 0 0 0)) H := sP_M0_0 hP
  have hD : va_D A (wM q k S (up2 Z 0 0 0)) := sD_M0_0 hD
  refine lv_aload_n hx hb dX3_rows_5 rfl (lv_at hl 0 rfl) ?_
  refine va_get (D := D) (v := .int (nI (S 0 5))) hx hb hts hin_X3 hown hX.1 hP 0 rfl rfl 19 (by decide) hf_141 (fun _ h9 => h9) rfl dX3_rows_6 ?_
  exact W.iret (v := nI (S 0 5)) hx hb hr (fun t ht hW => ⟨⟨_, (S, (up2 Z 0 0 0)), rfl, ⟨rfl, rfl, rfl⟩, by rw [ht]; exact hP, hD⟩, hS.F ht⟩) hS.2.2 dX3_rows_9

set_option maxHeartbeats 4000000 in
set_option maxRecDepth 100000 in
theorem k_X3_step (l : Launch) (D : va_G) (q : Nat → Nat) (k : Nat → ClassId) (S Z : Nat → Nat → Nat) (sz : Nat) (x0 : Int32) (hB : Bd S) : Met l yX3_step wsX3_step ({ frames := 1, cells := 0, slots := 0, locals := 22 } : Room) (va_Pc [.ref (q 0), .int x0] (wB D k (wM q k S Z) sz)) (va_Qi (fun (r : Int32) (u : (Nat → Nat → Nat) × (Nat → Nat → Nat)) => r = pI (stepR S x0) ∧ u.1 = S ∧ u.2 = up2 Z 0 0 0) (fun u t => wE D (va_A (wM q k S Z) sz) (wM q k u.1 u.2) t) (va_A (wM q k S Z) sz)) 0 0 (va_A (wM q k S Z) sz) := by
  refine Met.ofW (cc := cX3_step) (maxL := 2) (ret := (some .int)) (by decide) rfl ?_
  intro p e s m args below meth c s₁ B hml hv
  obtain ⟨rfl, hsz, hP, hX, hD0⟩ := hv
  have hx := B.exec
  have hb := B.bytes
  have hr := B.returns
  have hts := atoms_spec (ws := wsX3_step) B.pre
  have hown : s.vm.findClass RX3 = some m.cls := findClass_of_methodNamed B.named
  have hlocks := B.notSynchronized
  subst hsz
  have hD := hD0.self (sz := s.heap.size)
  generalize hAe : va_A (wM q k S Z) s.heap.size = A at hD ⊢
  have hA : ∀ q : Nat, s.heap.size ≤ q → A q := fun q h => by rw [← hAe]; exact Or.inr h
  have hS : va_S A s.heap s.heap [] := va_S.rf
  have hP : va_P D vwCl (wM q k S Z) s.heap := hP
  have hf_53 := hts (.fieldLink RX3 53 "FloorGraphModel" "steps" "[I") (by decide +kernel)
  have hf_59 := hts (.fieldLink RX3 59 "FloorGraphModel" "code" "I") (by decide +kernel)
  have hf_129 := hts (.fieldLink RX3 129 "FloorGraphModel" "stepCount" "I") (by decide +kernel)
  have hin_X3 : ∀ w ∈ u_ws RX3 TX3 24, w ∈ wsX3_step := by decide +kernel
  have f0 := hB.1
  have hl := lv_entry ([.ref (q 0), .int x0]) (n := 2) (Nat.le_of_ble_eq_true rfl)
  rw [lg_entry_eq]
  generalize (lg_sl ([.ref (q 0), .int x0]) ++ List.replicate (2 - (lg_sl ([.ref (q 0), .int x0])).length) Slot.unset).toArray = ls at hl ⊢
  have hl : lv_has ls 2 [(0, .ref (q 0)), (1, .int x0)] := hl
  refine lv_aload_n hx hb dX3_step_0 rfl (lv_at hl 0 rfl) ?_
  refine lv_iconst (v := nI 0) hx hb dX3_step_1 (by decide) ?_
  refine va_put (D := D) (v := .int (nI 0)) (ty := .int) hx hb hts hin_X3 tyX3 tyX3_ok nmX3 hown hX.1 hP hD hS 0 rfl rfl 0 (by decide) hf_59 (fun _ h9 => h9) rfl (by decide +kernel) rfl rfl (Nat.le_of_ble_eq_true rfl) dX3_step_2 (fun H locs hP hD hS => ?_)
  have hP : va_P D vwCl (wM q k S (up2 Z 0 0 0)) H := sP_M0_0 hP
  have hD : va_D A (wM q k S (up2 Z 0 0 0)) := sD_M0_0 hD
  refine lv_iload_n hx hb dX3_step_5 rfl (lv_at hl 1 rfl) ?_
  refine lv_iconst (v := nI 0) hx hb dX3_step_6 (by decide) ?_
  refine lv_aload_n hx hb dX3_step_7 rfl (lv_at hl 0 rfl) ?_
  refine va_get (D := D) (v := .int (nI (S 0 6))) hx hb hts hin_X3 hown hX.1 hP 0 rfl rfl 22 (by decide) hf_129 (fun _ h9 => h9) rfl dX3_step_8 ?_
  refine lv_iconst (v := nI 1) hx hb dX3_step_11 (by decide) ?_
  refine lv_isub hx hb dX3_step_12 ?_
  refine na_as (y := pI (S 0 6)) rfl ?_
  refine rd_S (As := [.int x0, .int (nI 0), .int (pI (S 0 6))]) (rest := []) ⟨hx, hb, hml, hown, hts⟩ (k_X3_in l x0 (nI 0) (pI (S 0 6)) ) (va_cwS 3 hts gX3_step_X3_in rfl rfl rfl (by decide +kernel) ⟨by decide, by decide⟩) rfl hl.1 rfl (Nat.le_of_ble_eq_true rfl) dX3_step_13 ⟨Nat.zero_le _, Nat.zero_le _⟩ ?_
  refine na_if_eq (tgt := 35) hx hb (bN_lt _) dX3_step_16 (by decide) (fun h_16 => ?_) (fun h_16 => ?_)
  · skip
    refine lv_iconst (v := pI 0) hx hb dX3_step_35 (by decide) ?_
    exact W.iret (v := pI 0) hx hb hr (fun t ht hW => ⟨⟨_, (S, (up2 Z 0 0 0)), rfl, ⟨by rw [stepR, if_neg (inp_f (by omega) h_16)], rfl, rfl⟩, by rw [ht]; exact hP, hD⟩, hS.F ht⟩) hS.2.2 dX3_step_36
  · skip
    have i0 := inp_t (by omega) h_16
    have j0 := iN_toInt (x := x0) (by omega)
    refine lv_aload_n hx hb dX3_step_19 rfl (lv_at hl 0 rfl) ?_
    refine va_get (D := D) (v := .ref (q 15)) hx hb hts hin_X3 hown hX.1 hP 0 rfl rfl 21 (by decide) hf_53 (fun _ h9 => h9) rfl dX3_step_20 ?_
    refine lv_aload_n hx hb dX3_step_23 rfl (lv_at hl 0 rfl) ?_
    refine va_get (D := D) (v := .int (nI (S 0 6))) hx hb hts hin_X3 hown hX.1 hP 0 rfl rfl 22 (by decide) hf_129 (fun _ h9 => h9) rfl dX3_step_24 ?_
    refine lv_iconst (v := nI 1) hx hb dX3_step_27 (by decide) ?_
    refine na_isub hx hb (by omega) dX3_step_28 ?_
    refine lv_iload_n hx hb dX3_step_29 rfl (lv_at hl 1 rfl) ?_
    refine na_as (y := nI (iN x0)) (iN_eq (by omega)) ?_
    refine na_isub hx hb (by omega) dX3_step_30 ?_
    refine na_iald hx hb hX.1 hP 15 0 rfl rfl (by omega) (by decide) dX3_step_31 ?_
    refine lv_goto (tgt := 36) hx hb dX3_step_32 (by decide) ?_
    exact W.iret (v := nI (S 14 (((S 0 6) - 1) - (iN x0)))) hx hb hr (fun t ht hW => ⟨⟨_, (S, (up2 Z 0 0 0)), rfl, ⟨by rw [stepR, if_pos i0]; exact pI_s _, rfl, rfl⟩, by rw [ht]; exact hP, hD⟩, hS.F ht⟩) hS.2.2 dX3_step_36

set_option maxHeartbeats 4000000 in
set_option maxRecDepth 100000 in
theorem k_X3_count (l : Launch) (D : va_G) (q : Nat → Nat) (k : Nat → ClassId) (S Z : Nat → Nat → Nat) (sz : Nat) (x0 : Int32) (hB : Bd S) (hj : S 0 1 % 2 = 0) : Met l yX3_count wsX3_count ({ frames := 1, cells := 0, slots := 0, locals := 22 } : Room) (va_Pc [.ref (q 0), .int x0] (wB D k (wM q k S Z) sz)) (va_Qi (fun (r : Int32) (u : (Nat → Nat → Nat) × (Nat → Nat → Nat)) => r = pI (cntR S x0) ∧ u.1 = S ∧ u.2 = up2 Z 0 0 0) (fun u t => wE D (va_A (wM q k S Z) sz) (wM q k u.1 u.2) t) (va_A (wM q k S Z) sz)) 0 0 (va_A (wM q k S Z) sz) := by
  refine Met.ofW (cc := cX3_count) (maxL := 4) (ret := (some .int)) (by decide) rfl ?_
  intro p e s m args below meth c s₁ B hml hv
  obtain ⟨rfl, hsz, hP, hX, hD0⟩ := hv
  have hx := B.exec
  have hb := B.bytes
  have hr := B.returns
  have hts := atoms_spec (ws := wsX3_count) B.pre
  have hown : s.vm.findClass RX3 = some m.cls := findClass_of_methodNamed B.named
  have hlocks := B.notSynchronized
  subst hsz
  have hD := hD0.self (sz := s.heap.size)
  generalize hAe : va_A (wM q k S Z) s.heap.size = A at hD ⊢
  have hA : ∀ q : Nat, s.heap.size ≤ q → A q := fun q h => by rw [← hAe]; exact Or.inr h
  have hS : va_S A s.heap s.heap [] := va_S.rf
  have hP : va_P D vwCl (wM q k S Z) s.heap := hP
  have hf_38 := hts (.fieldLink RX3 38 "FloorGraphModel" "bars" "[I") (by decide +kernel)
  have hf_59 := hts (.fieldLink RX3 59 "FloorGraphModel" "code" "I") (by decide +kernel)
  have hf_63 := hts (.fieldLink RX3 63 "FloorGraphModel" "pieces" "I") (by decide +kernel)
  have hf_73 := hts (.fieldLink RX3 73 "FloorGraphModel" "joins" "I") (by decide +kernel)
  have hf_92 := hts (.fieldLink RX3 92 "FloorGraphModel" "robots" "I") (by decide +kernel)
  have hf_138 := hts (.fieldLink RX3 138 "FloorGraphModel" "chargers" "I") (by decide +kernel)
  have hin_X3 : ∀ w ∈ u_ws RX3 TX3 24, w ∈ wsX3_count := by decide +kernel
  have f0 := hB.1
  have hl := lv_entry ([.ref (q 0), .int x0]) (n := 4) (Nat.le_of_ble_eq_true rfl)
  rw [lg_entry_eq]
  generalize (lg_sl ([.ref (q 0), .int x0]) ++ List.replicate (4 - (lg_sl ([.ref (q 0), .int x0])).length) Slot.unset).toArray = ls at hl ⊢
  have hl : lv_has ls 4 [(0, .ref (q 0)), (1, .int x0)] := hl
  refine lv_aload_n hx hb dX3_count_0 rfl (lv_at hl 0 rfl) ?_
  refine lv_iconst (v := nI 0) hx hb dX3_count_1 (by decide) ?_
  refine va_put (D := D) (v := .int (nI 0)) (ty := .int) hx hb hts hin_X3 tyX3 tyX3_ok nmX3 hown hX.1 hP hD hS 0 rfl rfl 0 (by decide) hf_59 (fun _ h9 => h9) rfl (by decide +kernel) rfl rfl (Nat.le_of_ble_eq_true rfl) dX3_count_2 (fun H locs hP hD hS => ?_)
  have hP : va_P D vwCl (wM q k S (up2 Z 0 0 0)) H := sP_M0_0 hP
  have hD : va_D A (wM q k S (up2 Z 0 0 0)) := sD_M0_0 hD
  refine lv_iload_n hx hb dX3_count_5 rfl (lv_at hl 1 rfl) ?_
  refine nr_if_ne (tgt := 14) hx hb dX3_count_6 (by decide) (fun h_6 => ?_) (fun h_6 => ?_)
  · skip
    refine lv_iload_n hx hb dX3_count_14 rfl (lv_at hl 1 rfl) ?_
    refine lv_iconst (v := nI 1) hx hb dX3_count_15 (by decide) ?_
    refine nr_icmp_ne (tgt := 24) hx hb dX3_count_16 (by decide) (fun h_16 => ?_) (fun h_16 => ?_)
    · skip
      refine lv_iload_n hx hb dX3_count_24 rfl (lv_at hl 1 rfl) ?_
      refine lv_iconst (v := nI 2) hx hb dX3_count_25 (by decide) ?_
      refine nr_icmp_ne (tgt := 34) hx hb dX3_count_26 (by decide) (fun h_26 => ?_) (fun h_26 => ?_)
      · skip
        refine lv_iload_n hx hb dX3_count_34 rfl (lv_at hl 1 rfl) ?_
        refine lv_iconst (v := nI 3) hx hb dX3_count_35 (by decide) ?_
        refine nr_icmp_ne (tgt := 44) hx hb dX3_count_36 (by decide) (fun h_36 => ?_) (fun h_36 => ?_)
        · skip
          refine lv_iconst (v := nI 0) hx hb dX3_count_44 (by decide) ?_
          refine lv_istore_n (lv' := [(2, .int (nI 0)), (0, .ref (q 0)), (1, .int x0)]) hx hb dX3_count_45 rfl hl (by decide) rfl (fun ls hl => ?_)
          refine lv_iconst (v := nI 0) hx hb dX3_count_46 (by decide) ?_
          refine lv_istore_n (lv' := [(3, .int (nI 0)), (2, .int (nI 0)), (0, .ref (q 0)), (1, .int x0)]) hx hb dX3_count_47 rfl hl (by decide) rfl (fun ls hl => ?_)
          have L48 : ∀ (n48 : Nat) (i : Nat) (f : Nat), (S 0 1 / 2 < i + n48) → (h1 : 2 * i ≤ S 0 1) → (h3 : f = sm (S 10) 0 (2 * i)) → ∀ (H : Heap) (locs : List Loc), va_P D vwCl (wM q k S (up2 Z 0 0 0)) H → va_D A (wM q k S (up2 Z 0 0 0)) → va_S A s.heap H locs → ∀ (ls : Array Slot), lv_has ls 4 [(3, .int (nI i)), (2, .int (nI f)), (0, .ref (q 0)), (1, .int x0)] → W p l e (headSpec wsX3_count ({ frames := 1, cells := 0, slots := 0, locals := 22 } : Room)).room s m [.ref (q 0), .int x0].toArray below meth c H locs 0 0 (MQ below (va_Qi (fun (r : Int32) (u : (Nat → Nat → Nat) × (Nat → Nat → Nat)) => r = pI (cntR S x0) ∧ u.1 = S ∧ u.2 = up2 Z 0 0 0) (fun u t => wE D (A) (wM q k u.1 u.2) t) (A)) [.ref (q 0), .int x0].toArray s 0 0 A) (F0 m 48 ls []) := by
            intro n48
            induction n48 with
            | zero =>
              intro i f hfuel48 h1 h3 H locs hP hD hS ls hl
              exact absurd hfuel48 (by omega)
            | succ n48 ih48 =>
              intro i f hfuel48 h1 h3 H locs hP hD hS ls hl
              have g0 := (hB.2.2.1 (2 * i)).2
              have g1 := (hB.2.2.1 (2 * i + 1)).2
              have gp := pop_2 (S 10 (2 * i)) (by omega) (S 10 (2 * i + 1)) (by omega)
              refine lv_iload_n hx hb dX3_count_48 rfl (lv_at hl 0 rfl) ?_
              refine lv_aload_n hx hb dX3_count_49 rfl (lv_at hl 2 rfl) ?_
              refine va_get (D := D) (v := .int (nI ((S 0 1) / 2))) hx hb hts hin_X3 hown hX.1 hP 0 rfl rfl 8 (by decide) hf_73 (fun _ h9 => h9) rfl dX3_count_50 ?_
              refine na_icmp_ge (tgt := 74) hx hb (by omega) (by omega) dX3_count_53 (by decide) (fun h_53 => ?_) (fun h_53 => ?_)
              · skip
                refine lv_iload_n hx hb dX3_count_74 rfl (lv_at hl 3 rfl) ?_
                refine lv_iconst (v := nI 4) hx hb dX3_count_75 (by decide) ?_
                refine nr_icmp_ne (tgt := 83) hx hb dX3_count_76 (by decide) (fun h_76 => ?_) (fun h_76 => ?_)
                · skip
                  refine lv_iconst (v := pI 0) hx hb dX3_count_83 (by decide) ?_
                  exact W.iret (v := pI 0) hx hb hr (fun t ht hW => ⟨⟨_, (S, (up2 Z 0 0 0)), rfl, ⟨cnt_e (by omega) h_6 h_16 h_26 h_36 h_76, rfl, rfl⟩, by rw [ht]; exact hP, hD⟩, hS.F ht⟩) hS.2.2 dX3_count_84
                · skip
                  refine lv_iload_n hx hb dX3_count_79 rfl (lv_at hl 1 rfl) ?_
                  refine lv_goto (tgt := 84) hx hb dX3_count_80 (by decide) ?_
                  exact W.iret (v := nI f) hx hb hr (fun t ht hW => ⟨⟨_, (S, (up2 Z 0 0 0)), rfl, ⟨by rw [h3, show 2 * i = S 0 1 by omega]; exact cnt_4 h_76, rfl, rfl⟩, by rw [ht]; exact hP, hD⟩, hS.F ht⟩) hS.2.2 dX3_count_84
              · skip
                refine lv_iload_n hx hb dX3_count_56 rfl (lv_at hl 1 rfl) ?_
                refine lv_aload_n hx hb dX3_count_57 rfl (lv_at hl 2 rfl) ?_
                refine va_get (D := D) (v := .ref (q 10)) hx hb hts hin_X3 hown hX.1 hP 0 rfl rfl 12 (by decide) hf_38 (fun _ h9 => h9) rfl dX3_count_58 ?_
                refine lv_iload_n hx hb dX3_count_61 rfl (lv_at hl 0 rfl) ?_
                refine na_iald hx hb hX.1 hP 10 0 rfl rfl (by omega) (by decide) dX3_count_62 ?_
                refine rd_S (As := [.int (nI (S 10 (2 * i) + 2 * S 10 (2 * i + 1)))]) (rest := [.int (nI f)]) ⟨hx, hb, hml, hown, hts⟩ (k_X3_bits l (S 10 (2 * i) + 2 * S 10 (2 * i + 1)) (by omega)) (va_cwS 1 hts gX3_count_X3_bits rfl rfl rfl (by decide +kernel) ⟨by decide, by decide⟩) rfl hl.1 rfl (Nat.le_of_ble_eq_true rfl) dX3_count_63 ⟨Nat.zero_le _, Nat.zero_le _⟩ ?_
                refine na_iadd hx hb dX3_count_66 ?_
                refine lv_istore_n (lv' := [(2, .int (nI (f + (pop (S 10 (2 * i) + 2 * S 10 (2 * i + 1)))))), (3, .int (nI i)), (0, .ref (q 0)), (1, .int x0)]) hx hb dX3_count_67 rfl hl (by decide) rfl (fun ls hl => ?_)
                refine lv_iinc (v := nI (i + 1)) (lv' := [(3, .int (nI (i + 1))), (2, .int (nI (f + (pop (S 10 (2 * i) + 2 * S 10 (2 * i + 1)))))), (0, .ref (q 0)), (1, .int x0)]) hx hb dX3_count_68 hl (k := 1) rfl (nI_add _ 1) (by decide) rfl (fun ls hl => ?_)
                refine lv_goto (tgt := 48) hx hb dX3_count_71 (by decide) ?_
                exact ih48 (i + 1) ((f + (pop (S 10 (2 * i) + 2 * S 10 (2 * i + 1))))) (by omega) (by omega) (by rw [show 2 * (i + 1) = 2 * i + 2 by omega, sm_pair, h3]; omega) _ _ hP hD hS ls hl
          exact L48 (S 0 1 + 1) 0 0 (by omega) (by omega) rfl _ _ hP hD hS ls hl
        · skip
          refine lv_aload_n hx hb dX3_count_39 rfl (lv_at hl 0 rfl) ?_
          refine va_get (D := D) (v := .int (nI (S 0 3))) hx hb hts hin_X3 hown hX.1 hP 0 rfl rfl 15 (by decide) hf_138 (fun _ h9 => h9) rfl dX3_count_40 ?_
          exact W.iret (v := nI (S 0 3)) hx hb hr (fun t ht hW => ⟨⟨_, (S, (up2 Z 0 0 0)), rfl, ⟨cnt_3 h_6 h_16 h_26 h_36, rfl, rfl⟩, by rw [ht]; exact hP, hD⟩, hS.F ht⟩) hS.2.2 dX3_count_43
      · skip
        refine lv_aload_n hx hb dX3_count_29 rfl (lv_at hl 0 rfl) ?_
        refine va_get (D := D) (v := .int (nI (S 0 2))) hx hb hts hin_X3 hown hX.1 hP 0 rfl rfl 13 (by decide) hf_92 (fun _ h9 => h9) rfl dX3_count_30 ?_
        exact W.iret (v := nI (S 0 2)) hx hb hr (fun t ht hW => ⟨⟨_, (S, (up2 Z 0 0 0)), rfl, ⟨cnt_2 h_6 h_16 h_26, rfl, rfl⟩, by rw [ht]; exact hP, hD⟩, hS.F ht⟩) hS.2.2 dX3_count_33
    · skip
      refine lv_aload_n hx hb dX3_count_19 rfl (lv_at hl 0 rfl) ?_
      refine va_get (D := D) (v := .int (nI ((S 0 1) / 2))) hx hb hts hin_X3 hown hX.1 hP 0 rfl rfl 8 (by decide) hf_73 (fun _ h9 => h9) rfl dX3_count_20 ?_
      exact W.iret (v := nI ((S 0 1) / 2)) hx hb hr (fun t ht hW => ⟨⟨_, (S, (up2 Z 0 0 0)), rfl, ⟨cnt_1 h_6 h_16, rfl, rfl⟩, by rw [ht]; exact hP, hD⟩, hS.F ht⟩) hS.2.2 dX3_count_23
  · skip
    refine lv_aload_n hx hb dX3_count_9 rfl (lv_at hl 0 rfl) ?_
    refine va_get (D := D) (v := .int (nI (S 0 0))) hx hb hts hin_X3 hown hX.1 hP 0 rfl rfl 1 (by decide) hf_63 (fun _ h9 => h9) rfl dX3_count_10 ?_
    exact W.iret (v := nI (S 0 0)) hx hb hr (fun t ht hW => ⟨⟨_, (S, (up2 Z 0 0 0)), rfl, ⟨cnt_0 h_6, rfl, rfl⟩, by rw [ht]; exact hP, hD⟩, hS.F ht⟩) hS.2.2 dX3_count_13

set_option maxHeartbeats 4000000 in
set_option maxRecDepth 100000 in
theorem k_X3_least (l : Launch) (D : va_G) (q : Nat → Nat) (k : Nat → ClassId) (S Z : Nat → Nat → Nat) (sz : Nat) (b0 : Nat) (a0 : Nat) (p0 : Nat) (h0 : Nat) (hB : Bd S) (hJ : Jn S) (hR : Rb (Z 1)) (hG : Gr S (2 * S 0 0)) (hb0 : b0 < 6) (ha : a0 < S 0 0) (hp : p0 < S 0 0) (hh : h0 < 24) : Met l yX3_least wsX3_least ({ frames := 5, cells := 0, slots := 0, locals := 124 } : Room) (va_Pc [.ref (q 0), .int (nI b0), .int (nI a0), .int (nI p0), .int (nI h0)] (wB D k (wM q k S Z) sz)) (va_Qi (fun (r : Int32) (u : (Nat → Nat → Nat) × (Nat → Nat → Nat)) => r = rI (secs S (S 11 b0) h0 a0 p0) ∧ u.1 = S ∧ u.2 = upR Z 1 (itr S (opn S (S 11 b0) h0) (rs S a0 (Z 1)) 40)) (fun u t => wE D (va_A (wM q k S Z) sz) (wM q k u.1 u.2) t) (va_A (wM q k S Z) sz)) 0 0 (va_A (wM q k S Z) sz) := by
  refine Met.ofW (cc := cX3_least) (maxL := 5) (ret := (some .int)) (by decide) rfl ?_
  intro p e s m args below meth c s₁ B hml hv
  obtain ⟨rfl, hsz, hP, hX, hD0⟩ := hv
  have hx := B.exec
  have hb := B.bytes
  have hr := B.returns
  have hts := atoms_spec (ws := wsX3_least) B.pre
  have hown : s.vm.findClass RX3 = some m.cls := findClass_of_methodNamed B.named
  have hlocks := B.notSynchronized
  subst hsz
  have hD := hD0.self (sz := s.heap.size)
  generalize hAe : va_A (wM q k S Z) s.heap.size = A at hD ⊢
  have hA : ∀ q : Nat, s.heap.size ≤ q → A q := fun q h => by rw [← hAe]; exact Or.inr h
  have hS : va_S A s.heap s.heap [] := va_S.rf
  have hP : va_P D vwCl (wM q k S Z) s.heap := hP
  have f0 := hB.1
  have hl := lv_entry ([.ref (q 0), .int (nI b0), .int (nI a0), .int (nI p0), .int (nI h0)]) (n := 5) (Nat.le_of_ble_eq_true rfl)
  rw [lg_entry_eq]
  generalize (lg_sl ([.ref (q 0), .int (nI b0), .int (nI a0), .int (nI p0), .int (nI h0)]) ++ List.replicate (5 - (lg_sl ([.ref (q 0), .int (nI b0), .int (nI a0), .int (nI p0), .int (nI h0)])).length) Slot.unset).toArray = ls at hl ⊢
  have hl : lv_has ls 5 [(0, .ref (q 0)), (1, .int (nI b0)), (2, .int (nI a0)), (3, .int (nI p0)), (4, .int (nI h0))] := hl
  refine lv_aload_n hx hb dX3_least_0 rfl (lv_at hl 0 rfl) ?_
  refine lv_iload_n hx hb dX3_least_1 rfl (lv_at hl 1 rfl) ?_
  refine lv_iload_n hx hb dX3_least_2 rfl (lv_at hl 2 rfl) ?_
  refine lv_iload hx hb dX3_least_3 (lv_at hl 4 rfl) ?_
  refine wr_Vv (As := [.int (nI b0), .int (nI a0), .int (nI h0)]) (rest := []) ⟨hx, hb, hml, hown, hts⟩ (k_X3_reachAll l D q k S Z _ b0 a0 h0 hB hJ hR hG hb0 ha hh) (cwV 3 hts gX3_least_X3_reachAll rfl rfl rfl (by decide +kernel) ⟨by decide, by decide⟩) hX hP hD hS hA (q0 := 0) rfl rfl rfl hl.1 rfl (Nat.le_of_ble_eq_true rfl) dX3_least_5 ⟨Nat.le_of_ble_eq_true rfl, Nat.le_of_ble_eq_true rfl⟩ (fun u_1 H locs hw_1 hP hD hS => ?_)
  obtain ⟨S_1, Z_1⟩ := u_1
  obtain ⟨e1, e2⟩ := hw_1
  dsimp only at e1 e2 hP hD
  rw [e1, e2] at hP hD
  have hP : va_P D vwCl (wM q k S (upR Z 1 (itr S (opn S (S 11 b0) h0) (rs S a0 (Z 1)) 40))) H := hP
  have hD : va_D A (wM q k S (upR Z 1 (itr S (opn S (S 11 b0) h0) (rs S a0 (Z 1)) 40))) := hD
  refine lv_aload_n hx hb dX3_least_8 rfl (lv_at hl 0 rfl) ?_
  refine lv_iload_n hx hb dX3_least_9 rfl (lv_at hl 1 rfl) ?_
  refine lv_iload_n hx hb dX3_least_10 rfl (lv_at hl 2 rfl) ?_
  refine lv_iload_n hx hb dX3_least_11 rfl (lv_at hl 3 rfl) ?_
  refine lv_iload hx hb dX3_least_12 (lv_at hl 4 rfl) ?_
  refine rd_V (As := [.int (nI b0), .int (nI a0), .int (nI p0), .int (nI h0)]) (rest := []) ⟨hx, hb, hml, hown, hts⟩ (k_X3_secondsTo l D q k S (upR Z 1 (itr S (opn S (S 11 b0) h0) (rs S a0 (Z 1)) 40)) b0 a0 p0 h0 hB hJ (by rw [upR_same]; exact Rb_fin hG hR) hb0 (by omega) (by omega) hh) (cwV 4 hts gX3_least_X3_secondsTo rfl rfl rfl (by decide +kernel) ⟨by decide, by decide⟩) hX hP (q0 := 0) rfl rfl rfl hl.1 rfl (Nat.le_of_ble_eq_true rfl) dX3_least_14 ⟨Nat.zero_le _, Nat.zero_le _⟩ ?_
  exact W.iret (v := rI (sTo S (opn S (S 11 b0) h0) ((upR Z 1 (itr S (opn S (S 11 b0) h0) (rs S a0 (Z 1)) 40)) 1) a0 p0)) hx hb hr (fun t ht hW => ⟨⟨_, (S, (upR Z 1 (itr S (opn S (S 11 b0) h0) (rs S a0 (Z 1)) 40))), rfl, ⟨by rw [upR_same, secs_m hG], rfl, rfl⟩, by rw [ht]; exact hP, hD⟩, hS.F ht⟩) hS.2.2 dX3_least_17

set_option maxHeartbeats 4000000 in
set_option maxRecDepth 100000 in
theorem k_X3_same (l : Launch) (D : va_G) (q : Nat → Nat) (k : Nat → ClassId) (S Z : Nat → Nat → Nat) (sz : Nat) (x0 : Int32) (x1 : Int32) (x2 : Int32) (x3 : Int32) (hB : Bd S) (hJ : Jn S) (hR : Rb (Z 1)) (hG : Gr S (2 * S 0 0)) : Met l yX3_same wsX3_same ({ frames := 6, cells := 0, slots := 0, locals := 148 } : Room) (va_Pc [.ref (q 0), .int x0, .int x1, .int x2, .int x3] (wB D k (wM q k S Z) sz)) (va_Qi (fun (r : Int32) (u : (Nat → Nat → Nat) × (Nat → Nat → Nat)) => (cd1 (okD S x0 x1 x2 x3) = 0 → r = nI (bN (decide (secs S (S 11 (iN x0)) (iN x3) (iN x1) (iN x2) = secs S (S 11 (iN x0)) (iN x3) (iN x2) (iN x1))))) ∧ u.1 = S ∧ u.2 0 0 = cd1 (okD S x0 x1 x2 x3) ∧ Rb (u.2 1)) (fun u t => wE D (va_A (wM q k S Z) sz) (wM q k u.1 u.2) t) (va_A (wM q k S Z) sz)) 0 0 (va_A (wM q k S Z) sz) := by
  refine Met.ofW (cc := cX3_same) (maxL := 5) (ret := (some .boolean)) (by decide) rfl ?_
  intro p e s m args below meth c s₁ B hml hv
  obtain ⟨rfl, hsz, hP, hX, hD0⟩ := hv
  have hx := B.exec
  have hb := B.bytes
  have hr := B.returns
  have hts := atoms_spec (ws := wsX3_same) B.pre
  have hown : s.vm.findClass RX3 = some m.cls := findClass_of_methodNamed B.named
  have hlocks := B.notSynchronized
  subst hsz
  have hD := hD0.self (sz := s.heap.size)
  generalize hAe : va_A (wM q k S Z) s.heap.size = A at hD ⊢
  have hA : ∀ q : Nat, s.heap.size ≤ q → A q := fun q h => by rw [← hAe]; exact Or.inr h
  have hS : va_S A s.heap s.heap [] := va_S.rf
  have hP : va_P D vwCl (wM q k S Z) s.heap := hP
  have hf_59 := hts (.fieldLink RX3 59 "FloorGraphModel" "code" "I") (by decide +kernel)
  have hin_X3 : ∀ w ∈ u_ws RX3 TX3 24, w ∈ wsX3_same := by decide +kernel
  have f0 := hB.1
  have hl := lv_entry ([.ref (q 0), .int x0, .int x1, .int x2, .int x3]) (n := 5) (Nat.le_of_ble_eq_true rfl)
  rw [lg_entry_eq]
  generalize (lg_sl ([.ref (q 0), .int x0, .int x1, .int x2, .int x3]) ++ List.replicate (5 - (lg_sl ([.ref (q 0), .int x0, .int x1, .int x2, .int x3])).length) Slot.unset).toArray = ls at hl ⊢
  have hl : lv_has ls 5 [(0, .ref (q 0)), (1, .int x0), (2, .int x1), (3, .int x2), (4, .int x3)] := hl
  refine lv_aload_n hx hb dX3_same_0 rfl (lv_at hl 0 rfl) ?_
  refine lv_aload_n hx hb dX3_same_1 rfl (lv_at hl 0 rfl) ?_
  refine lv_iload_n hx hb dX3_same_2 rfl (lv_at hl 1 rfl) ?_
  refine lv_iload_n hx hb dX3_same_3 rfl (lv_at hl 2 rfl) ?_
  refine lv_iload_n hx hb dX3_same_4 rfl (lv_at hl 3 rfl) ?_
  refine lv_iload hx hb dX3_same_5 (lv_at hl 4 rfl) ?_
  refine rd_V (As := [.int x0, .int x1, .int x2, .int x3]) (rest := [.ref (q 0)]) ⟨hx, hb, hml, hown, hts⟩ (k_X3_isDrive l D q k S Z x0 x1 x2 x3 hB) (cwV 4 hts gX3_same_X3_isDrive rfl rfl rfl (by decide +kernel) ⟨by decide, by decide⟩) hX hP (q0 := 0) rfl rfl rfl hl.1 rfl (Nat.le_of_ble_eq_true rfl) dX3_same_7 ⟨Nat.zero_le _, Nat.zero_le _⟩ ?_
  refine na_if_eq (tgt := 17) hx hb (bN_lt _) dX3_same_10 (by decide) (fun h_10 => ?_) (fun h_10 => ?_)
  · skip
    refine lv_iconst (v := nI 1) hx hb dX3_same_17 (by decide) ?_
    refine va_put (D := D) (v := .int (nI 1)) (ty := .int) hx hb hts hin_X3 tyX3 tyX3_ok nmX3 hown hX.1 hP hD hS 0 rfl rfl 0 (by decide) hf_59 (fun _ h9 => h9) rfl (by decide +kernel) rfl rfl (Nat.le_of_ble_eq_true rfl) dX3_same_18 (fun H locs hP hD hS => ?_)
    have hP : va_P D vwCl (wM q k S (up2 Z 0 0 1)) H := sP_M0_0 hP
    have hD : va_D A (wM q k S (up2 Z 0 0 1)) := sD_M0_0 hD
    refine lv_aload_n hx hb dX3_same_21 rfl (lv_at hl 0 rfl) ?_
    refine va_get (D := D) (v := .int (nI 1)) hx hb hts hin_X3 hown hX.1 hP 0 rfl rfl 0 (by decide) hf_59 (fun _ h9 => h9) rfl dX3_same_22 ?_
    refine na_if_ne (tgt := 53) hx hb (by omega) dX3_same_25 (by decide) (fun h_25 => ?_) (fun h_25 => ?_)
    · skip
      refine lv_iconst (v := nI 0) hx hb dX3_same_53 (by decide) ?_
      exact W.zret (v := nI 0) hx hb hr (nar_b _ (by first | decide | omega | exact bN_le _)) (fun t ht hW => ⟨⟨_, (S, (up2 Z 0 0 1)), rfl, (have hc : cd1 (okD S x0 x1 x2 x3) = 1 := cd1_1 (okD_f h_10); ⟨fun q => absurd (hc.symm.trans q) (by decide), rfl, by rw [hc]; rfl, hR⟩), by rw [ht]; exact hP, hD⟩, hS.F ht⟩) hS.2.2 dX3_same_54
    · exact absurd h_25 (by decide)
  · skip
    refine lv_iconst (v := nI 0) hx hb dX3_same_13 (by decide) ?_
    refine lv_goto (tgt := 18) hx hb dX3_same_14 (by decide) ?_
    refine va_put (D := D) (v := .int (nI 0)) (ty := .int) hx hb hts hin_X3 tyX3 tyX3_ok nmX3 hown hX.1 hP hD hS 0 rfl rfl 0 (by decide) hf_59 (fun _ h9 => h9) rfl (by decide +kernel) rfl rfl (Nat.le_of_ble_eq_true rfl) dX3_same_18 (fun H locs hP hD hS => ?_)
    have hP : va_P D vwCl (wM q k S (up2 Z 0 0 0)) H := sP_M0_0 hP
    have hD : va_D A (wM q k S (up2 Z 0 0 0)) := sD_M0_0 hD
    refine lv_aload_n hx hb dX3_same_21 rfl (lv_at hl 0 rfl) ?_
    refine va_get (D := D) (v := .int (nI 0)) hx hb hts hin_X3 hown hX.1 hP 0 rfl rfl 0 (by decide) hf_59 (fun _ h9 => h9) rfl dX3_same_22 ?_
    refine na_if_ne (tgt := 53) hx hb (by omega) dX3_same_25 (by decide) (fun h_25 => ?_) (fun h_25 => ?_)
    · exact absurd h_25 (by decide)
    · skip
      have i0 := okD_t h_10
      have j0 := iN_toInt (x := x0) i0.1.1
      have j1 := iN_toInt (x := x1) i0.2.1.1
      have j2 := iN_toInt (x := x2) i0.2.2.1.1
      have j3 := iN_toInt (x := x3) i0.2.2.2.1
      have l1 := i0.2.1.lt
      have l2 := i0.2.2.1.lt
      have l0 := i0.1.2
      have l3 := i0.2.2.2.2
      refine lv_aload_n hx hb dX3_same_28 rfl (lv_at hl 0 rfl) ?_
      refine lv_iload_n hx hb dX3_same_29 rfl (lv_at hl 1 rfl) ?_
      refine na_as (y := nI (iN x0)) (iN_eq i0.1.1) ?_
      refine lv_iload_n hx hb dX3_same_30 rfl (lv_at hl 2 rfl) ?_
      refine na_as (y := nI (iN x1)) (iN_eq i0.2.1.1) ?_
      refine lv_iload_n hx hb dX3_same_31 rfl (lv_at hl 3 rfl) ?_
      refine na_as (y := nI (iN x2)) (iN_eq i0.2.2.1.1) ?_
      refine lv_iload hx hb dX3_same_32 (lv_at hl 4 rfl) ?_
      refine na_as (y := nI (iN x3)) (iN_eq i0.2.2.2.1) ?_
      refine wr_Vi (As := [.int (nI (iN x0)), .int (nI (iN x1)), .int (nI (iN x2)), .int (nI (iN x3))]) (rest := []) ⟨hx, hb, hml, hown, hts⟩ (k_X3_least l D q k S (up2 Z 0 0 0) _ (iN x0) (iN x1) (iN x2) (iN x3) hB hJ hR hG (by omega) l1 l2 (by omega)) (cwV 4 hts gX3_same_X3_least rfl rfl rfl (by decide +kernel) ⟨by decide, by decide⟩) hX hP hD hS hA (q0 := 0) rfl rfl rfl hl.1 rfl (Nat.le_of_ble_eq_true rfl) dX3_same_34 ⟨Nat.le_of_ble_eq_true rfl, Nat.le_of_ble_eq_true rfl⟩ (fun r_1 u_1 H locs hw_1 hP hD hS => ?_)
      obtain ⟨S_1, Z_1⟩ := u_1
      obtain ⟨e1, e2, e3⟩ := hw_1
      dsimp only at e2 e3 hP hD
      rw [e2, e3] at hP hD
      subst e1
      have hP : va_P D vwCl (wM q k S (upR (up2 Z 0 0 0) 1 (itr S (opn S (S 11 (iN x0)) (iN x3)) (rs S (iN x1) ((up2 Z 0 0 0) 1)) 40))) H := hP
      have hD : va_D A (wM q k S (upR (up2 Z 0 0 0) 1 (itr S (opn S (S 11 (iN x0)) (iN x3)) (rs S (iN x1) ((up2 Z 0 0 0) 1)) 40))) := hD
      refine lv_aload_n hx hb dX3_same_37 rfl (lv_at hl 0 rfl) ?_
      refine lv_iload_n hx hb dX3_same_38 rfl (lv_at hl 1 rfl) ?_
      refine na_as (y := nI (iN x0)) (iN_eq i0.1.1) ?_
      refine lv_iload_n hx hb dX3_same_39 rfl (lv_at hl 3 rfl) ?_
      refine na_as (y := nI (iN x2)) (iN_eq i0.2.2.1.1) ?_
      refine lv_iload_n hx hb dX3_same_40 rfl (lv_at hl 2 rfl) ?_
      refine na_as (y := nI (iN x1)) (iN_eq i0.2.1.1) ?_
      refine lv_iload hx hb dX3_same_41 (lv_at hl 4 rfl) ?_
      refine na_as (y := nI (iN x3)) (iN_eq i0.2.2.2.1) ?_
      refine wr_Vi (As := [.int (nI (iN x0)), .int (nI (iN x2)), .int (nI (iN x1)), .int (nI (iN x3))]) (rest := [.int (rI (secs S (S 11 (iN x0)) (iN x3) (iN x1) (iN x2)))]) ⟨hx, hb, hml, hown, hts⟩ (k_X3_least l D q k S (upR (up2 Z 0 0 0) 1 (itr S (opn S (S 11 (iN x0)) (iN x3)) (rs S (iN x1) ((up2 Z 0 0 0) 1)) 40)) _ (iN x0) (iN x2) (iN x1) (iN x3) hB hJ (by rw [upR_same]; exact Rb_fin hG hR) hG (by omega) l2 l1 (by omega)) (cwV 4 hts gX3_same_X3_least rfl rfl rfl (by decide +kernel) ⟨by decide, by decide⟩) hX hP hD hS hA (q0 := 0) rfl rfl rfl hl.1 rfl (Nat.le_of_ble_eq_true rfl) dX3_same_43 ⟨Nat.le_of_ble_eq_true rfl, Nat.le_of_ble_eq_true rfl⟩ (fun r_2 u_2 H locs hw_2 hP hD hS => ?_)
      obtain ⟨S_2, Z_2⟩ := u_2
      obtain ⟨e1, e2, e3⟩ := hw_2
      dsimp only at e2 e3 hP hD
      rw [e2, e3] at hP hD
      subst e1
      have hP : va_P D vwCl (wM q k S (upR (upR (up2 Z 0 0 0) 1 (itr S (opn S (S 11 (iN x0)) (iN x3)) (rs S (iN x1) ((up2 Z 0 0 0) 1)) 40)) 1 (itr S (opn S (S 11 (iN x0)) (iN x3)) (rs S (iN x2) ((upR (up2 Z 0 0 0) 1 (itr S (opn S (S 11 (iN x0)) (iN x3)) (rs S (iN x1) ((up2 Z 0 0 0) 1)) 40)) 1)) 40))) H := hP
      have hD : va_D A (wM q k S (upR (upR (up2 Z 0 0 0) 1 (itr S (opn S (S 11 (iN x0)) (iN x3)) (rs S (iN x1) ((up2 Z 0 0 0) 1)) 40)) 1 (itr S (opn S (S 11 (iN x0)) (iN x3)) (rs S (iN x2) ((upR (up2 Z 0 0 0) 1 (itr S (opn S (S 11 (iN x0)) (iN x3)) (rs S (iN x1) ((up2 Z 0 0 0) 1)) 40)) 1)) 40))) := hD
      refine nzz_icmp_ne (tgt := 53) hx hb (by have := secs_le (S := S) (w := S 11 (iN x0)) (h := iN x3) (a := iN x1) (t := iN x2); have := secs_le (S := S) (w := S 11 (iN x0)) (h := iN x3) (a := iN x2) (t := iN x1); omega) (by have := secs_le (S := S) (w := S 11 (iN x0)) (h := iN x3) (a := iN x1) (t := iN x2); have := secs_le (S := S) (w := S 11 (iN x0)) (h := iN x3) (a := iN x2) (t := iN x1); omega) dX3_same_46 (by decide) (fun h_46 => ?_) (fun h_46 => ?_)
      · skip
        refine lv_iconst (v := nI 0) hx hb dX3_same_53 (by decide) ?_
        exact W.zret (v := nI 0) hx hb hr (nar_b _ (by first | decide | omega | exact bN_le _)) (fun t ht hW => ⟨⟨_, (S, (upR (upR (up2 Z 0 0 0) 1 (itr S (opn S (S 11 (iN x0)) (iN x3)) (rs S (iN x1) ((up2 Z 0 0 0) 1)) 40)) 1 (itr S (opn S (S 11 (iN x0)) (iN x3)) (rs S (iN x2) ((upR (up2 Z 0 0 0) 1 (itr S (opn S (S 11 (iN x0)) (iN x3)) (rs S (iN x1) ((up2 Z 0 0 0) 1)) 40)) 1)) 40))), rfl, (have hc : cd1 (okD S x0 x1 x2 x3) = 0 := cd1_0 i0; ⟨fun _ => bN0 (decide_eq_false h_46), rfl, by rw [hc]; rfl, by rw [upR_same]; exact Rb_fin hG (by first | exact Rb_fin hG hR | (rw [upR_same]; exact Rb_fin hG hR))⟩), by rw [ht]; exact hP, hD⟩, hS.F ht⟩) hS.2.2 dX3_same_54
      · skip
        refine lv_iconst (v := nI 1) hx hb dX3_same_49 (by decide) ?_
        refine lv_goto (tgt := 54) hx hb dX3_same_50 (by decide) ?_
        exact W.zret (v := nI 1) hx hb hr (nar_b _ (by first | decide | omega | exact bN_le _)) (fun t ht hW => ⟨⟨_, (S, (upR (upR (up2 Z 0 0 0) 1 (itr S (opn S (S 11 (iN x0)) (iN x3)) (rs S (iN x1) ((up2 Z 0 0 0) 1)) 40)) 1 (itr S (opn S (S 11 (iN x0)) (iN x3)) (rs S (iN x2) ((upR (up2 Z 0 0 0) 1 (itr S (opn S (S 11 (iN x0)) (iN x3)) (rs S (iN x1) ((up2 Z 0 0 0) 1)) 40)) 1)) 40))), rfl, (have hc : cd1 (okD S x0 x1 x2 x3) = 0 := cd1_0 i0; ⟨fun _ => bN1 (decide_eq_true h_46), rfl, by rw [hc]; rfl, by rw [upR_same]; exact Rb_fin hG (by first | exact Rb_fin hG hR | (rw [upR_same]; exact Rb_fin hG hR))⟩), by rw [ht]; exact hP, hD⟩, hS.F ht⟩) hS.2.2 dX3_same_54
