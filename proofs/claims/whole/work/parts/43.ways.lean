set_option maxHeartbeats 4000000 in
set_option maxRecDepth 100000 in
theorem k_X0_waysOn_0 (l : Launch) (D : va_G) (q : Nat → Nat) (k : Nat → ClassId) (r : Nat → Nat) (S Z : Nat → Nat → Nat) (sz : Nat) (e0 : Nat) (t0 : Nat) (hB : Bd S) (hZ0 : ∀ p, Z 0 p ≤ 1) (hZ2 : ∀ p, Z 2 p ≤ 1) (hL : LV S Z) (he : e0 < 40) (ht0 : t0 < 20) : Met l yX0_waysOn wsX0_waysOn ({ frames := 0, cells := 0, slots := 0, locals := 29 * 0 } : Room) (va_Pc [.ref (q 2), .ref (q 1), .int (nI e0), .int (nI t0), .int (nI 0)] (wB D k (wC q k r S Z) sz)) (va_Qi (fun (r : Int32) (u : (Nat → Nat → Nat) × (Nat → Nat → Nat)) => r = nI (cx S (oZ Z) t0 (0) (Z 2) e0) ∧ u.1 = S ∧ u.2 = Z) (fun u t => wE D (va_A (wC q k r S Z) sz) (wC q k r u.1 u.2) t) (va_A (wC q k r S Z) sz)) 0 0 (va_A (wC q k r S Z) sz) := by
  refine Met.ofW (cc := cX0_waysOn) (maxL := 10) (ret := (some .int)) (by decide) rfl ?_
  intro p e s m args below meth c s₁ B hml hv
  obtain ⟨rfl, hsz, hP, hX, hD0⟩ := hv
  have hx := B.exec
  have hb := B.bytes
  have hr := B.returns
  have hts := atoms_spec (ws := wsX0_waysOn) B.pre
  have hown : s.vm.findClass RX0 = some m.cls := findClass_of_methodNamed B.named
  have hlocks := B.notSynchronized
  subst hsz
  have hD := hD0.self (sz := s.heap.size)
  generalize hAe : va_A (wC q k r S Z) s.heap.size = A at hD ⊢
  have hA : ∀ q : Nat, s.heap.size ≤ q → A q := fun q h => by rw [← hAe]; exact Or.inr h
  have hS : va_S A s.heap s.heap [] := va_S.rf
  have hP : va_P D vwCl (wC q k r S Z) s.heap := hP
  have hf_9 := hts (.fieldLink RX0 9 "FloorGraph$Drive" "open" "[Z") (by decide +kernel)
  have hf_19 := hts (.fieldLink RX0 19 "FloorGraph$Drive" "met" "[Z") (by decide +kernel)
  have hf_31 : (Cond.fieldLinkNest "FloorGraph$Drive" 31 "FloorGraph$Floor" "goals" "[I" "FloorGraph").before _ s = true := va_Nw.use (A := [.ref (q 2), .ref (q 1), .int (nI e0), .int (nI t0), .int (nI 0)].toArray) rfl (hX.2.1 ("FloorGraph$Drive", 31, "FloorGraph$Floor", "goals", "[I", "FloorGraph") (by decide +kernel))
  have hf_82 : (Cond.fieldLinkNest "FloorGraph$Drive" 82 "FloorGraph$Floor" "leavings" "[I" "FloorGraph").before _ s = true := va_Nw.use (A := [.ref (q 2), .ref (q 1), .int (nI e0), .int (nI t0), .int (nI 0)].toArray) rfl (hX.2.1 ("FloorGraph$Drive", 82, "FloorGraph$Floor", "leavings", "[I", "FloorGraph") (by decide +kernel))
  have hf_85 : (Cond.fieldLinkNest "FloorGraph$Drive" 85 "FloorGraph$Floor" "leaving" "[[I" "FloorGraph").before _ s = true := va_Nw.use (A := [.ref (q 2), .ref (q 1), .int (nI e0), .int (nI t0), .int (nI 0)].toArray) rfl (hX.2.1 ("FloorGraph$Drive", 85, "FloorGraph$Floor", "leaving", "[[I", "FloorGraph") (by decide +kernel))
  have hin_X0 : ∀ w ∈ u_ws RX0 TX0 3, w ∈ wsX0_waysOn := by decide +kernel
  have hin_X1 : ∀ w ∈ u_ws RX1 TX1 14, w ∈ wsX0_waysOn := by decide +kernel
  have f0 := hB.1
  have hLe := hL e0 he
  have hl := lv_entry ([.ref (q 2), .ref (q 1), .int (nI e0), .int (nI t0), .int (nI 0)]) (n := 10) (Nat.le_of_ble_eq_true rfl)
  rw [lg_entry_eq]
  generalize (lg_sl ([.ref (q 2), .ref (q 1), .int (nI e0), .int (nI t0), .int (nI 0)]) ++ List.replicate (10 - (lg_sl ([.ref (q 2), .ref (q 1), .int (nI e0), .int (nI t0), .int (nI 0)])).length) Slot.unset).toArray = ls at hl ⊢
  have hl : lv_has ls 10 [(0, .ref (q 2)), (1, .ref (q 1)), (2, .int (nI e0)), (3, .int (nI t0)), (4, .int (nI 0))] := hl
  refine lv_iconst (v := nI 0) hx hb dX0_waysOn_0 (by decide) ?_
  refine lv_istore (lv' := [(5, .int (nI 0)), (0, .ref (q 2)), (1, .ref (q 1)), (2, .int (nI e0)), (3, .int (nI t0)), (4, .int (nI 0))]) hx hb dX0_waysOn_1 hl (by decide) rfl (fun ls hl => ?_)
  refine lv_iconst (v := nI 0) hx hb dX0_waysOn_3 (by decide) ?_
  refine lv_istore (lv' := [(6, .int (nI 0)), (5, .int (nI 0)), (0, .ref (q 2)), (1, .ref (q 1)), (2, .int (nI e0)), (3, .int (nI t0)), (4, .int (nI 0))]) hx hb dX0_waysOn_4 hl (by decide) rfl (fun ls hl => ?_)
  have L6 : ∀ (n6 : Nat) (i : Nat) (f : Nat), (Z 3 e0 < i + n6) → (h1 : i ≤ Z 3 e0) → (h3 : f = sm (fun i => tm S (oZ Z) t0 (0) (Z 2) (Z (10 + e0) i)) 0 i) → ∀ (H : Heap) (locs : List Loc), va_P D vwCl (wC q k r S Z) H → va_D A (wC q k r S Z) → va_S A s.heap H locs → ∀ (ls : Array Slot), lv_has ls 10 [(6, .int (nI i)), (5, .int (nI f)), (0, .ref (q 2)), (1, .ref (q 1)), (2, .int (nI e0)), (3, .int (nI t0)), (4, .int (nI 0))] → W p l e (headSpec wsX0_waysOn ({ frames := 0, cells := 0, slots := 0, locals := 29 * 0 } : Room)).room s m [.ref (q 2), .ref (q 1), .int (nI e0), .int (nI t0), .int (nI 0)].toArray below meth c H locs 0 0 (MQ below (va_Qi (fun (r : Int32) (u : (Nat → Nat → Nat) × (Nat → Nat → Nat)) => r = nI (cx S (oZ Z) t0 (0) (Z 2) e0) ∧ u.1 = S ∧ u.2 = Z) (fun u t => wE D (A) (wC q k r u.1 u.2) t) (A)) [.ref (q 2), .ref (q 1), .int (nI e0), .int (nI t0), .int (nI 0)].toArray s 0 0 A) (F0 m 6 ls []) := by
    intro n6
    induction n6 with
    | zero =>
      intro i f hfuel6 h1 h3 H locs hP hD hS ls hl
      exact absurd hfuel6 (by omega)
    | succ n6 ih6 =>
      intro i f hfuel6 h1 h3 H locs hP hD hS ls hl
      refine lv_iload hx hb dX0_waysOn_6 (lv_at hl 0 rfl) ?_
      refine lv_aload_n hx hb dX0_waysOn_8 rfl (lv_at hl 3 rfl) ?_
      refine va_getN (D := D) (v := .ref (q 14)) hx hb hts hin_X1 hown hX.1 hP 1 rfl rfl 13 (by decide) hf_82 (fun _ h9 => h9) rfl dX0_waysOn_9 ?_
      refine lv_iload_n hx hb dX0_waysOn_12 rfl (lv_at hl 4 rfl) ?_
      refine na_iald hx hb hX.1 hP 14 0 rfl rfl (by omega) (by decide) dX0_waysOn_13 ?_
      refine na_icmp_ge (tgt := 124) hx hb (by have := hLe.2.2; omega) (by have := hLe.2.2; omega) dX0_waysOn_14 (by decide) (fun h_14 => ?_) (fun h_14 => ?_)
      · skip
        refine lv_iload hx hb dX0_waysOn_124 (lv_at hl 1 rfl) ?_
        exact W.iret (v := nI f) hx hb hr (fun t ht hW => ⟨⟨_, (S, Z), rfl, ⟨congrArg nI (by rw [h3, show i = Z 3 e0 by omega, cx_tm]; exact hLe.1 (fun p => tm S (oZ Z) t0 (0) (Z 2) p)), rfl, rfl⟩, by rw [ht]; exact hP, hD⟩, hS.F ht⟩) hS.2.2 dX0_waysOn_126
      · skip
        refine lv_aload_n hx hb dX0_waysOn_17 rfl (lv_at hl 3 rfl) ?_
        refine va_getN (D := D) (v := .ref (q 13)) hx hb hts hin_X1 hown hX.1 hP 1 rfl rfl 12 (by decide) hf_85 (fun _ h9 => h9) rfl dX0_waysOn_18 ?_
        refine lv_iload_n hx hb dX0_waysOn_21 rfl (lv_at hl 4 rfl) ?_
        refine na_aald (b := r e0) hx hb hX.1 hP 13 2 rfl rfl he (by decide) (if_pos he) dX0_waysOn_22 ?_
        refine lv_iload hx hb dX0_waysOn_23 (lv_at hl 0 rfl) ?_
        refine na_iald hx hb hX.1 hP (23 + e0) 0 (wC_leav he) rfl (by have := hLe.2.2; omega) (by decide) dX0_waysOn_25 ?_
        refine lv_istore (lv' := [(7, .int (nI (Z (10 + e0) i))), (6, .int (nI i)), (5, .int (nI f)), (0, .ref (q 2)), (1, .ref (q 1)), (2, .int (nI e0)), (3, .int (nI t0)), (4, .int (nI 0))]) hx hb dX0_waysOn_26 hl (by decide) rfl (fun ls hl => ?_)
        have fp := hLe.2.1 i (by omega)
        have f8 := hB.2.2.2.1 (Z (10 + e0) i) fp
        have g0 := hZ0 (Z (10 + e0) i)
        have g2 := hZ2 (S 8 (Z (10 + e0) i) / 2)
        refine lv_aload_n hx hb dX0_waysOn_28 rfl (lv_at hl 4 rfl) ?_
        refine va_getN (D := D) (v := .ref (q 10)) hx hb hts hin_X1 hown hX.1 hP 1 rfl rfl 9 (by decide) hf_31 (fun _ h9 => h9) rfl dX0_waysOn_29 ?_
        refine lv_iload hx hb dX0_waysOn_32 (lv_at hl 0 rfl) ?_
        refine na_iald hx hb hX.1 hP 10 0 rfl rfl (by omega) (by decide) dX0_waysOn_34 ?_
        refine lv_istore (lv' := [(8, .int (nI (S 8 (Z (10 + e0) i)))), (7, .int (nI (Z (10 + e0) i))), (6, .int (nI i)), (5, .int (nI f)), (0, .ref (q 2)), (1, .ref (q 1)), (2, .int (nI e0)), (3, .int (nI t0)), (4, .int (nI 0))]) hx hb dX0_waysOn_35 hl (by decide) rfl (fun ls hl => ?_)
        refine lv_iload hx hb dX0_waysOn_37 (lv_at hl 0 rfl) ?_
        refine lv_iconst (v := nI 2) hx hb dX0_waysOn_39 (by decide) ?_
        refine na_idiv2 hx hb (by omega) dX0_waysOn_40 ?_
        refine lv_istore (lv' := [(9, .int (nI ((S 8 (Z (10 + e0) i)) / 2))), (8, .int (nI (S 8 (Z (10 + e0) i)))), (7, .int (nI (Z (10 + e0) i))), (6, .int (nI i)), (5, .int (nI f)), (0, .ref (q 2)), (1, .ref (q 1)), (2, .int (nI e0)), (3, .int (nI t0)), (4, .int (nI 0))]) hx hb dX0_waysOn_41 hl (by decide) rfl (fun ls hl => ?_)
        refine lv_aload_n hx hb dX0_waysOn_43 rfl (lv_at hl 5 rfl) ?_
        refine va_get (D := D) (v := .ref (q 15)) hx hb hts hin_X0 hown hX.1 hP 2 rfl rfl 0 (by decide) hf_9 (fun _ h9 => h9) rfl dX0_waysOn_44 ?_
        refine lv_iload hx hb dX0_waysOn_47 (lv_at hl 2 rfl) ?_
        refine na_zald hx hb hX.1 hP 15 1 rfl rfl (by omega) (by decide) dX0_waysOn_49 ?_
        refine na_if_eq (tgt := 118) hx hb (by omega) dX0_waysOn_50 (by decide) (fun h_50 => ?_) (fun h_50 => ?_)
        · skip
          refine lv_iinc (v := nI (i + 1)) (lv' := [(6, .int (nI (i + 1))), (9, .int (nI ((S 8 (Z (10 + e0) i)) / 2))), (8, .int (nI (S 8 (Z (10 + e0) i)))), (7, .int (nI (Z (10 + e0) i))), (5, .int (nI f)), (0, .ref (q 2)), (1, .ref (q 1)), (2, .int (nI e0)), (3, .int (nI t0)), (4, .int (nI 0))]) hx hb dX0_waysOn_118 hl (k := 3) rfl (nI_add _ 1) (by decide) rfl (fun ls hl => ?_)
          refine lv_goto (tgt := 6) hx hb dX0_waysOn_121 (by decide) ?_
          try rw [up2_back h_60] at hP hD
          exact ih6 (i + 1) f (by omega) (by omega) (by rw [sm_s, h3]; first | exact (congrArg (fun z => sm _ 0 i + z) (tm_c (fun q => absurd (of_decide_eq_true q.1) (by omega)))).symm | exact (congrArg (fun z => sm _ 0 i + z) (tm_c (fun q => absurd q.2 (by omega)))).symm | exact (congrArg (fun z => sm _ 0 i + z) (tm_1 (decide_eq_true (show Z 0 (Z (10 + e0) i) = 1 by omega)) h_60 h_69)).symm | exact (congrArg (fun z => sm _ 0 i + z) (tm_0 h_69)).symm | exact (congrArg (fun z => sm _ 0 i + z) (tm_s (decide_eq_true (show Z 0 (Z (10 + e0) i) = 1 by omega)) h_60 h_69)).symm) _ _ hP hD hS ls (lv_sub hl [0, 4, 5, 6, 7, 8, 9] rfl)
        · skip
          refine lv_aload_n hx hb dX0_waysOn_53 rfl (lv_at hl 5 rfl) ?_
          refine va_get (D := D) (v := .ref (q 17)) hx hb hts hin_X0 hown hX.1 hP 2 rfl rfl 2 (by decide) hf_19 (fun _ h9 => h9) rfl dX0_waysOn_54 ?_
          refine lv_iload hx hb dX0_waysOn_57 (lv_at hl 0 rfl) ?_
          refine na_zald hx hb hX.1 hP 17 1 rfl rfl (by omega) (by decide) dX0_waysOn_59 ?_
          refine na_if_eq (tgt := 66) hx hb (by omega) dX0_waysOn_60 (by decide) (fun h_60 => ?_) (fun h_60 => ?_)
          · skip
            refine lv_iload hx hb dX0_waysOn_66 (lv_at hl 0 rfl) ?_
            refine lv_iload_n hx hb dX0_waysOn_68 rfl (lv_at hl 8 rfl) ?_
            refine na_icmp_ne (tgt := 78) hx hb (by omega) (by omega) dX0_waysOn_69 (by decide) (fun h_69 => ?_) (fun h_69 => ?_)
            · skip
              refine lv_iload hx hb dX0_waysOn_78 (lv_at hl 9 rfl) ?_
              refine na_if_le (tgt := 118) hx hb (by omega) dX0_waysOn_80 (by decide) (fun h_80 => ?_) (fun h_80 => ?_)
              · skip
                refine lv_iinc (v := nI (i + 1)) (lv' := [(6, .int (nI (i + 1))), (9, .int (nI ((S 8 (Z (10 + e0) i)) / 2))), (8, .int (nI (S 8 (Z (10 + e0) i)))), (7, .int (nI (Z (10 + e0) i))), (5, .int (nI f)), (0, .ref (q 2)), (1, .ref (q 1)), (2, .int (nI e0)), (3, .int (nI t0)), (4, .int (nI 0))]) hx hb dX0_waysOn_118 hl (k := 3) rfl (nI_add _ 1) (by decide) rfl (fun ls hl => ?_)
                refine lv_goto (tgt := 6) hx hb dX0_waysOn_121 (by decide) ?_
                try rw [up2_back h_60] at hP hD
                exact ih6 (i + 1) f (by omega) (by omega) (by rw [sm_s, h3]; first | exact (congrArg (fun z => sm _ 0 i + z) (tm_c (fun q => absurd (of_decide_eq_true q.1) (by omega)))).symm | exact (congrArg (fun z => sm _ 0 i + z) (tm_c (fun q => absurd q.2 (by omega)))).symm | exact (congrArg (fun z => sm _ 0 i + z) (tm_1 (decide_eq_true (show Z 0 (Z (10 + e0) i) = 1 by omega)) h_60 h_69)).symm | exact (congrArg (fun z => sm _ 0 i + z) (tm_0 h_69)).symm | exact (congrArg (fun z => sm _ 0 i + z) (tm_s (decide_eq_true (show Z 0 (Z (10 + e0) i) = 1 by omega)) h_60 h_69)).symm) _ _ hP hD hS ls (lv_sub hl [0, 4, 5, 6, 7, 8, 9] rfl)
              · exact absurd h_80 (by decide)
            · skip
              refine lv_iinc (v := nI (f + 1)) (lv' := [(5, .int (nI (f + 1))), (9, .int (nI ((S 8 (Z (10 + e0) i)) / 2))), (8, .int (nI (S 8 (Z (10 + e0) i)))), (7, .int (nI (Z (10 + e0) i))), (6, .int (nI i)), (0, .ref (q 2)), (1, .ref (q 1)), (2, .int (nI e0)), (3, .int (nI t0)), (4, .int (nI 0))]) hx hb dX0_waysOn_72 hl (k := 4) rfl (nI_add _ 1) (by decide) rfl (fun ls hl => ?_)
              refine lv_goto (tgt := 118) hx hb dX0_waysOn_75 (by decide) ?_
              refine lv_iinc (v := nI (i + 1)) (lv' := [(6, .int (nI (i + 1))), (5, .int (nI (f + 1))), (9, .int (nI ((S 8 (Z (10 + e0) i)) / 2))), (8, .int (nI (S 8 (Z (10 + e0) i)))), (7, .int (nI (Z (10 + e0) i))), (0, .ref (q 2)), (1, .ref (q 1)), (2, .int (nI e0)), (3, .int (nI t0)), (4, .int (nI 0))]) hx hb dX0_waysOn_118 hl (k := 4) rfl (nI_add _ 1) (by decide) rfl (fun ls hl => ?_)
              refine lv_goto (tgt := 6) hx hb dX0_waysOn_121 (by decide) ?_
              try rw [up2_back h_60] at hP hD
              exact ih6 (i + 1) ((f + 1)) (by omega) (by omega) (by rw [sm_s, h3]; first | exact (congrArg (fun z => sm _ 0 i + z) (tm_c (fun q => absurd (of_decide_eq_true q.1) (by omega)))).symm | exact (congrArg (fun z => sm _ 0 i + z) (tm_c (fun q => absurd q.2 (by omega)))).symm | exact (congrArg (fun z => sm _ 0 i + z) (tm_1 (decide_eq_true (show Z 0 (Z (10 + e0) i) = 1 by omega)) h_60 h_69)).symm | exact (congrArg (fun z => sm _ 0 i + z) (tm_0 h_69)).symm | exact (congrArg (fun z => sm _ 0 i + z) (tm_s (decide_eq_true (show Z 0 (Z (10 + e0) i) = 1 by omega)) h_60 h_69)).symm) _ _ hP hD hS ls (lv_sub hl [0, 1, 5, 6, 7, 8, 9] rfl)
          · skip
            refine lv_goto (tgt := 118) hx hb dX0_waysOn_63 (by decide) ?_
            refine lv_iinc (v := nI (i + 1)) (lv' := [(6, .int (nI (i + 1))), (9, .int (nI ((S 8 (Z (10 + e0) i)) / 2))), (8, .int (nI (S 8 (Z (10 + e0) i)))), (7, .int (nI (Z (10 + e0) i))), (5, .int (nI f)), (0, .ref (q 2)), (1, .ref (q 1)), (2, .int (nI e0)), (3, .int (nI t0)), (4, .int (nI 0))]) hx hb dX0_waysOn_118 hl (k := 3) rfl (nI_add _ 1) (by decide) rfl (fun ls hl => ?_)
            refine lv_goto (tgt := 6) hx hb dX0_waysOn_121 (by decide) ?_
            try rw [up2_back h_60] at hP hD
            exact ih6 (i + 1) f (by omega) (by omega) (by rw [sm_s, h3]; first | exact (congrArg (fun z => sm _ 0 i + z) (tm_c (fun q => absurd (of_decide_eq_true q.1) (by omega)))).symm | exact (congrArg (fun z => sm _ 0 i + z) (tm_c (fun q => absurd q.2 (by omega)))).symm | exact (congrArg (fun z => sm _ 0 i + z) (tm_1 (decide_eq_true (show Z 0 (Z (10 + e0) i) = 1 by omega)) h_60 h_69)).symm | exact (congrArg (fun z => sm _ 0 i + z) (tm_0 h_69)).symm | exact (congrArg (fun z => sm _ 0 i + z) (tm_s (decide_eq_true (show Z 0 (Z (10 + e0) i) = 1 by omega)) h_60 h_69)).symm) _ _ hP hD hS ls (lv_sub hl [0, 4, 5, 6, 7, 8, 9] rfl)
  exact L6 (Z 3 e0 + 1) 0 0 (by omega) (by omega) rfl _ _ hP hD hS ls hl

set_option maxHeartbeats 4000000 in
set_option maxRecDepth 100000 in
theorem k_X0_waysOn_s (l : Launch) (D : va_G) (q : Nat → Nat) (k : Nat → ClassId) (r : Nat → Nat) (S Z : Nat → Nat → Nat) (sz : Nat) (e0 : Nat) (t0 : Nat) (b1 : Nat) (ih : KWays l b1) (hb1 : b1 ≤ 5) (hB : Bd S) (hZ0 : ∀ p, Z 0 p ≤ 1) (hZ2 : ∀ p, Z 2 p ≤ 1) (hL : LV S Z) (he : e0 < 40) (ht0 : t0 < 20) : Met l yX0_waysOn wsX0_waysOn ({ frames := b1 + 1, cells := 0, slots := 0, locals := 29 * (b1 + 1) } : Room) (va_Pc [.ref (q 2), .ref (q 1), .int (nI e0), .int (nI t0), .int (nI (b1 + 1))] (wB D k (wC q k r S Z) sz)) (va_Qi (fun (r : Int32) (u : (Nat → Nat → Nat) × (Nat → Nat → Nat)) => r = nI (cx S (oZ Z) t0 (b1 + 1) (Z 2) e0) ∧ u.1 = S ∧ u.2 = Z) (fun u t => wE D (va_A (wC q k r S Z) sz) (wC q k r u.1 u.2) t) (va_A (wC q k r S Z) sz)) 0 0 (va_A (wC q k r S Z) sz) := by
  refine Met.ofW (cc := cX0_waysOn) (maxL := 10) (ret := (some .int)) (by decide) rfl ?_
  intro p e s m args below meth c s₁ B hml hv
  obtain ⟨rfl, hsz, hP, hX, hD0⟩ := hv
  have hx := B.exec
  have hb := B.bytes
  have hr := B.returns
  have hts := atoms_spec (ws := wsX0_waysOn) B.pre
  have hown : s.vm.findClass RX0 = some m.cls := findClass_of_methodNamed B.named
  have hlocks := B.notSynchronized
  subst hsz
  have hD := hD0.self (sz := s.heap.size)
  generalize hAe : va_A (wC q k r S Z) s.heap.size = A at hD ⊢
  have hA : ∀ q : Nat, s.heap.size ≤ q → A q := fun q h => by rw [← hAe]; exact Or.inr h
  have hS : va_S A s.heap s.heap [] := va_S.rf
  have hP : va_P D vwCl (wC q k r S Z) s.heap := hP
  have hf_9 := hts (.fieldLink RX0 9 "FloorGraph$Drive" "open" "[Z") (by decide +kernel)
  have hf_19 := hts (.fieldLink RX0 19 "FloorGraph$Drive" "met" "[Z") (by decide +kernel)
  have hf_31 : (Cond.fieldLinkNest "FloorGraph$Drive" 31 "FloorGraph$Floor" "goals" "[I" "FloorGraph").before _ s = true := va_Nw.use (A := [.ref (q 2), .ref (q 1), .int (nI e0), .int (nI t0), .int (nI (b1 + 1))].toArray) rfl (hX.2.1 ("FloorGraph$Drive", 31, "FloorGraph$Floor", "goals", "[I", "FloorGraph") (by decide +kernel))
  have hf_82 : (Cond.fieldLinkNest "FloorGraph$Drive" 82 "FloorGraph$Floor" "leavings" "[I" "FloorGraph").before _ s = true := va_Nw.use (A := [.ref (q 2), .ref (q 1), .int (nI e0), .int (nI t0), .int (nI (b1 + 1))].toArray) rfl (hX.2.1 ("FloorGraph$Drive", 82, "FloorGraph$Floor", "leavings", "[I", "FloorGraph") (by decide +kernel))
  have hf_85 : (Cond.fieldLinkNest "FloorGraph$Drive" 85 "FloorGraph$Floor" "leaving" "[[I" "FloorGraph").before _ s = true := va_Nw.use (A := [.ref (q 2), .ref (q 1), .int (nI e0), .int (nI t0), .int (nI (b1 + 1))].toArray) rfl (hX.2.1 ("FloorGraph$Drive", 85, "FloorGraph$Floor", "leaving", "[[I", "FloorGraph") (by decide +kernel))
  have hin_X0 : ∀ w ∈ u_ws RX0 TX0 3, w ∈ wsX0_waysOn := by decide +kernel
  have hin_X1 : ∀ w ∈ u_ws RX1 TX1 14, w ∈ wsX0_waysOn := by decide +kernel
  have f0 := hB.1
  have hLe := hL e0 he
  have hl := lv_entry ([.ref (q 2), .ref (q 1), .int (nI e0), .int (nI t0), .int (nI (b1 + 1))]) (n := 10) (Nat.le_of_ble_eq_true rfl)
  rw [lg_entry_eq]
  generalize (lg_sl ([.ref (q 2), .ref (q 1), .int (nI e0), .int (nI t0), .int (nI (b1 + 1))]) ++ List.replicate (10 - (lg_sl ([.ref (q 2), .ref (q 1), .int (nI e0), .int (nI t0), .int (nI (b1 + 1))])).length) Slot.unset).toArray = ls at hl ⊢
  have hl : lv_has ls 10 [(0, .ref (q 2)), (1, .ref (q 1)), (2, .int (nI e0)), (3, .int (nI t0)), (4, .int (nI (b1 + 1)))] := hl
  refine lv_iconst (v := nI 0) hx hb dX0_waysOn_0 (by decide) ?_
  refine lv_istore (lv' := [(5, .int (nI 0)), (0, .ref (q 2)), (1, .ref (q 1)), (2, .int (nI e0)), (3, .int (nI t0)), (4, .int (nI (b1 + 1)))]) hx hb dX0_waysOn_1 hl (by decide) rfl (fun ls hl => ?_)
  refine lv_iconst (v := nI 0) hx hb dX0_waysOn_3 (by decide) ?_
  refine lv_istore (lv' := [(6, .int (nI 0)), (5, .int (nI 0)), (0, .ref (q 2)), (1, .ref (q 1)), (2, .int (nI e0)), (3, .int (nI t0)), (4, .int (nI (b1 + 1)))]) hx hb dX0_waysOn_4 hl (by decide) rfl (fun ls hl => ?_)
  have L6 : ∀ (n6 : Nat) (i : Nat) (f : Nat), (Z 3 e0 < i + n6) → (h1 : i ≤ Z 3 e0) → (h3 : f = sm (fun i => tm S (oZ Z) t0 (b1 + 1) (Z 2) (Z (10 + e0) i)) 0 i) → ∀ (H : Heap) (locs : List Loc), va_P D vwCl (wC q k r S Z) H → va_D A (wC q k r S Z) → va_S A s.heap H locs → ∀ (ls : Array Slot), lv_has ls 10 [(6, .int (nI i)), (5, .int (nI f)), (0, .ref (q 2)), (1, .ref (q 1)), (2, .int (nI e0)), (3, .int (nI t0)), (4, .int (nI (b1 + 1)))] → W p l e (headSpec wsX0_waysOn ({ frames := b1 + 1, cells := 0, slots := 0, locals := 29 * (b1 + 1) } : Room)).room s m [.ref (q 2), .ref (q 1), .int (nI e0), .int (nI t0), .int (nI (b1 + 1))].toArray below meth c H locs 0 0 (MQ below (va_Qi (fun (r : Int32) (u : (Nat → Nat → Nat) × (Nat → Nat → Nat)) => r = nI (cx S (oZ Z) t0 (b1 + 1) (Z 2) e0) ∧ u.1 = S ∧ u.2 = Z) (fun u t => wE D (A) (wC q k r u.1 u.2) t) (A)) [.ref (q 2), .ref (q 1), .int (nI e0), .int (nI t0), .int (nI (b1 + 1))].toArray s 0 0 A) (F0 m 6 ls []) := by
    intro n6
    induction n6 with
    | zero =>
      intro i f hfuel6 h1 h3 H locs hP hD hS ls hl
      exact absurd hfuel6 (by omega)
    | succ n6 ih6 =>
      intro i f hfuel6 h1 h3 H locs hP hD hS ls hl
      refine lv_iload hx hb dX0_waysOn_6 (lv_at hl 0 rfl) ?_
      refine lv_aload_n hx hb dX0_waysOn_8 rfl (lv_at hl 3 rfl) ?_
      refine va_getN (D := D) (v := .ref (q 14)) hx hb hts hin_X1 hown hX.1 hP 1 rfl rfl 13 (by decide) hf_82 (fun _ h9 => h9) rfl dX0_waysOn_9 ?_
      refine lv_iload_n hx hb dX0_waysOn_12 rfl (lv_at hl 4 rfl) ?_
      refine na_iald hx hb hX.1 hP 14 0 rfl rfl (by omega) (by decide) dX0_waysOn_13 ?_
      refine na_icmp_ge (tgt := 124) hx hb (by have := hLe.2.2; omega) (by have := hLe.2.2; omega) dX0_waysOn_14 (by decide) (fun h_14 => ?_) (fun h_14 => ?_)
      · skip
        refine lv_iload hx hb dX0_waysOn_124 (lv_at hl 1 rfl) ?_
        exact W.iret (v := nI f) hx hb hr (fun t ht hW => ⟨⟨_, (S, Z), rfl, ⟨congrArg nI (by rw [h3, show i = Z 3 e0 by omega, cx_tm]; exact hLe.1 (fun p => tm S (oZ Z) t0 (b1 + 1) (Z 2) p)), rfl, rfl⟩, by rw [ht]; exact hP, hD⟩, hS.F ht⟩) hS.2.2 dX0_waysOn_126
      · skip
        refine lv_aload_n hx hb dX0_waysOn_17 rfl (lv_at hl 3 rfl) ?_
        refine va_getN (D := D) (v := .ref (q 13)) hx hb hts hin_X1 hown hX.1 hP 1 rfl rfl 12 (by decide) hf_85 (fun _ h9 => h9) rfl dX0_waysOn_18 ?_
        refine lv_iload_n hx hb dX0_waysOn_21 rfl (lv_at hl 4 rfl) ?_
        refine na_aald (b := r e0) hx hb hX.1 hP 13 2 rfl rfl he (by decide) (if_pos he) dX0_waysOn_22 ?_
        refine lv_iload hx hb dX0_waysOn_23 (lv_at hl 0 rfl) ?_
        refine na_iald hx hb hX.1 hP (23 + e0) 0 (wC_leav he) rfl (by have := hLe.2.2; omega) (by decide) dX0_waysOn_25 ?_
        refine lv_istore (lv' := [(7, .int (nI (Z (10 + e0) i))), (6, .int (nI i)), (5, .int (nI f)), (0, .ref (q 2)), (1, .ref (q 1)), (2, .int (nI e0)), (3, .int (nI t0)), (4, .int (nI (b1 + 1)))]) hx hb dX0_waysOn_26 hl (by decide) rfl (fun ls hl => ?_)
        have fp := hLe.2.1 i (by omega)
        have f8 := hB.2.2.2.1 (Z (10 + e0) i) fp
        have g0 := hZ0 (Z (10 + e0) i)
        have g2 := hZ2 (S 8 (Z (10 + e0) i) / 2)
        refine lv_aload_n hx hb dX0_waysOn_28 rfl (lv_at hl 4 rfl) ?_
        refine va_getN (D := D) (v := .ref (q 10)) hx hb hts hin_X1 hown hX.1 hP 1 rfl rfl 9 (by decide) hf_31 (fun _ h9 => h9) rfl dX0_waysOn_29 ?_
        refine lv_iload hx hb dX0_waysOn_32 (lv_at hl 0 rfl) ?_
        refine na_iald hx hb hX.1 hP 10 0 rfl rfl (by omega) (by decide) dX0_waysOn_34 ?_
        refine lv_istore (lv' := [(8, .int (nI (S 8 (Z (10 + e0) i)))), (7, .int (nI (Z (10 + e0) i))), (6, .int (nI i)), (5, .int (nI f)), (0, .ref (q 2)), (1, .ref (q 1)), (2, .int (nI e0)), (3, .int (nI t0)), (4, .int (nI (b1 + 1)))]) hx hb dX0_waysOn_35 hl (by decide) rfl (fun ls hl => ?_)
        refine lv_iload hx hb dX0_waysOn_37 (lv_at hl 0 rfl) ?_
        refine lv_iconst (v := nI 2) hx hb dX0_waysOn_39 (by decide) ?_
        refine na_idiv2 hx hb (by omega) dX0_waysOn_40 ?_
        refine lv_istore (lv' := [(9, .int (nI ((S 8 (Z (10 + e0) i)) / 2))), (8, .int (nI (S 8 (Z (10 + e0) i)))), (7, .int (nI (Z (10 + e0) i))), (6, .int (nI i)), (5, .int (nI f)), (0, .ref (q 2)), (1, .ref (q 1)), (2, .int (nI e0)), (3, .int (nI t0)), (4, .int (nI (b1 + 1)))]) hx hb dX0_waysOn_41 hl (by decide) rfl (fun ls hl => ?_)
        refine lv_aload_n hx hb dX0_waysOn_43 rfl (lv_at hl 5 rfl) ?_
        refine va_get (D := D) (v := .ref (q 15)) hx hb hts hin_X0 hown hX.1 hP 2 rfl rfl 0 (by decide) hf_9 (fun _ h9 => h9) rfl dX0_waysOn_44 ?_
        refine lv_iload hx hb dX0_waysOn_47 (lv_at hl 2 rfl) ?_
        refine na_zald hx hb hX.1 hP 15 1 rfl rfl (by omega) (by decide) dX0_waysOn_49 ?_
        refine na_if_eq (tgt := 118) hx hb (by omega) dX0_waysOn_50 (by decide) (fun h_50 => ?_) (fun h_50 => ?_)
        · skip
          refine lv_iinc (v := nI (i + 1)) (lv' := [(6, .int (nI (i + 1))), (9, .int (nI ((S 8 (Z (10 + e0) i)) / 2))), (8, .int (nI (S 8 (Z (10 + e0) i)))), (7, .int (nI (Z (10 + e0) i))), (5, .int (nI f)), (0, .ref (q 2)), (1, .ref (q 1)), (2, .int (nI e0)), (3, .int (nI t0)), (4, .int (nI (b1 + 1)))]) hx hb dX0_waysOn_118 hl (k := 3) rfl (nI_add _ 1) (by decide) rfl (fun ls hl => ?_)
          refine lv_goto (tgt := 6) hx hb dX0_waysOn_121 (by decide) ?_
          try rw [up2_back h_60] at hP hD
          exact ih6 (i + 1) f (by omega) (by omega) (by rw [sm_s, h3]; first | exact (congrArg (fun z => sm _ 0 i + z) (tm_c (fun q => absurd (of_decide_eq_true q.1) (by omega)))).symm | exact (congrArg (fun z => sm _ 0 i + z) (tm_c (fun q => absurd q.2 (by omega)))).symm | exact (congrArg (fun z => sm _ 0 i + z) (tm_1 (decide_eq_true (show Z 0 (Z (10 + e0) i) = 1 by omega)) h_60 h_69)).symm | exact (congrArg (fun z => sm _ 0 i + z) (tm_0 h_69)).symm | exact (congrArg (fun z => sm _ 0 i + z) (tm_s (decide_eq_true (show Z 0 (Z (10 + e0) i) = 1 by omega)) h_60 h_69)).symm) _ _ hP hD hS ls (lv_sub hl [0, 4, 5, 6, 7, 8, 9] rfl)
        · skip
          refine lv_aload_n hx hb dX0_waysOn_53 rfl (lv_at hl 5 rfl) ?_
          refine va_get (D := D) (v := .ref (q 17)) hx hb hts hin_X0 hown hX.1 hP 2 rfl rfl 2 (by decide) hf_19 (fun _ h9 => h9) rfl dX0_waysOn_54 ?_
          refine lv_iload hx hb dX0_waysOn_57 (lv_at hl 0 rfl) ?_
          refine na_zald hx hb hX.1 hP 17 1 rfl rfl (by omega) (by decide) dX0_waysOn_59 ?_
          refine na_if_eq (tgt := 66) hx hb (by omega) dX0_waysOn_60 (by decide) (fun h_60 => ?_) (fun h_60 => ?_)
          · skip
            refine lv_iload hx hb dX0_waysOn_66 (lv_at hl 0 rfl) ?_
            refine lv_iload_n hx hb dX0_waysOn_68 rfl (lv_at hl 8 rfl) ?_
            refine na_icmp_ne (tgt := 78) hx hb (by omega) (by omega) dX0_waysOn_69 (by decide) (fun h_69 => ?_) (fun h_69 => ?_)
            · skip
              refine lv_iload hx hb dX0_waysOn_78 (lv_at hl 9 rfl) ?_
              refine na_if_le (tgt := 118) hx hb (by omega) dX0_waysOn_80 (by decide) (fun h_80 => ?_) (fun h_80 => ?_)
              · skip
                refine lv_iinc (v := nI (i + 1)) (lv' := [(6, .int (nI (i + 1))), (9, .int (nI ((S 8 (Z (10 + e0) i)) / 2))), (8, .int (nI (S 8 (Z (10 + e0) i)))), (7, .int (nI (Z (10 + e0) i))), (5, .int (nI f)), (0, .ref (q 2)), (1, .ref (q 1)), (2, .int (nI e0)), (3, .int (nI t0)), (4, .int (nI (b1 + 1)))]) hx hb dX0_waysOn_118 hl (k := 3) rfl (nI_add _ 1) (by decide) rfl (fun ls hl => ?_)
                refine lv_goto (tgt := 6) hx hb dX0_waysOn_121 (by decide) ?_
                try rw [up2_back h_60] at hP hD
                exact ih6 (i + 1) f (by omega) (by omega) (by rw [sm_s, h3]; first | exact (congrArg (fun z => sm _ 0 i + z) (tm_c (fun q => absurd (of_decide_eq_true q.1) (by omega)))).symm | exact (congrArg (fun z => sm _ 0 i + z) (tm_c (fun q => absurd q.2 (by omega)))).symm | exact (congrArg (fun z => sm _ 0 i + z) (tm_1 (decide_eq_true (show Z 0 (Z (10 + e0) i) = 1 by omega)) h_60 h_69)).symm | exact (congrArg (fun z => sm _ 0 i + z) (tm_0 h_69)).symm | exact (congrArg (fun z => sm _ 0 i + z) (tm_s (decide_eq_true (show Z 0 (Z (10 + e0) i) = 1 by omega)) h_60 h_69)).symm) _ _ hP hD hS ls (lv_sub hl [0, 4, 5, 6, 7, 8, 9] rfl)
              · skip
                refine lv_aload_n hx hb dX0_waysOn_83 rfl (lv_at hl 5 rfl) ?_
                refine va_get (D := D) (v := .ref (q 17)) hx hb hts hin_X0 hown hX.1 hP 2 rfl rfl 2 (by decide) hf_19 (fun _ h9 => h9) rfl dX0_waysOn_84 ?_
                refine lv_iload hx hb dX0_waysOn_87 (lv_at hl 0 rfl) ?_
                refine lv_iconst (v := nI 1) hx hb dX0_waysOn_89 (by decide) ?_
                refine na_zast hx hb hX.1 hP hD hS 17 1 rfl rfl (by omega) (by omega) (by decide) (upd_enc nI _ _ _) dX0_waysOn_90 (fun H locs hP hD hS => ?_)
                have hP : va_P D vwCl (wC q k r S (up2 Z 2 ((S 8 (Z (10 + e0) i)) / 2) 1)) H := sP_C17 hP
                have hD : va_D A (wC q k r S (up2 Z 2 ((S 8 (Z (10 + e0) i)) / 2) 1)) := sD_C17 hD
                refine lv_iload hx hb dX0_waysOn_91 (lv_at hl 4 rfl) ?_
                refine lv_aload_n hx hb dX0_waysOn_93 rfl (lv_at hl 5 rfl) ?_
                refine lv_aload_n hx hb dX0_waysOn_94 rfl (lv_at hl 6 rfl) ?_
                refine lv_iload hx hb dX0_waysOn_95 (lv_at hl 1 rfl) ?_
                refine lv_iconst (v := nI 1) hx hb dX0_waysOn_97 (by decide) ?_
                refine na_ixor1 hx hb (by omega) dX0_waysOn_98 ?_
                refine lv_iload_n hx hb dX0_waysOn_99 rfl (lv_at hl 8 rfl) ?_
                refine lv_iload hx hb dX0_waysOn_100 (lv_at hl 9 rfl) ?_
                refine lv_iconst (v := nI 1) hx hb dX0_waysOn_102 (by decide) ?_
                refine na_isub hx hb (by omega) dX0_waysOn_103 ?_
                refine wr_Vi (As := [.ref (q 1), .int (nI (fl (S 8 (Z (10 + e0) i)))), .int (nI t0), .int (nI ((b1 + 1) - 1))]) (rest := [.int (nI f)]) ⟨hx, hb, hml, hown, hts⟩ (ih D q k r S (up2 Z 2 ((S 8 (Z (10 + e0) i)) / 2) 1) _ (fl (S 8 (Z (10 + e0) i))) t0 hB hZ0 (up2_le1 hZ2 (Nat.le_refl _)) (LV_up hL) (by have := fl_lt (x := S 8 (Z (10 + e0) i)) (n := 20) (by omega); omega) ht0) (cwV 4 hts gX0_waysOn_X0_waysOn rfl rfl rfl (by decide +kernel) ⟨Nat.le_refl _, (show 8 + (10 + 11) + 29 * b1 ≤ 29 * (b1 + 1) by omega)⟩) hX hP hD hS hA (q0 := 2) rfl rfl rfl hl.1 rfl (Nat.le_of_ble_eq_true rfl) dX0_waysOn_104 ⟨Nat.le_of_ble_eq_true rfl, Nat.le_of_ble_eq_true rfl⟩ (fun r_1 u_1 H locs hw_1 hP hD hS => ?_)
                obtain ⟨S_1, Z_1⟩ := u_1
                obtain ⟨e1, e2, e3⟩ := hw_1
                dsimp only at e2 e3 hP hD
                rw [e2, e3] at hP hD
                have e1 : _ = nI (cx S (oZ Z) t0 b1 (up1 (Z 2) (S 8 (Z (10 + e0) i) / 2) 1) (fl (S 8 (Z (10 + e0) i)))) := e1
                subst e1
                have hP : va_P D vwCl (wC q k r S (up2 Z 2 ((S 8 (Z (10 + e0) i)) / 2) 1)) H := hP
                have hD : va_D A (wC q k r S (up2 Z 2 ((S 8 (Z (10 + e0) i)) / 2) 1)) := hD
                refine na_iadd hx hb dX0_waysOn_107 ?_
                refine lv_istore (lv' := [(5, .int (nI (f + (cx S (oZ Z) t0 b1 (up1 (Z 2) (S 8 (Z (10 + e0) i) / 2) 1) (fl (S 8 (Z (10 + e0) i))))))), (9, .int (nI ((S 8 (Z (10 + e0) i)) / 2))), (8, .int (nI (S 8 (Z (10 + e0) i)))), (7, .int (nI (Z (10 + e0) i))), (6, .int (nI i)), (0, .ref (q 2)), (1, .ref (q 1)), (2, .int (nI e0)), (3, .int (nI t0)), (4, .int (nI (b1 + 1)))]) hx hb dX0_waysOn_108 hl (by decide) rfl (fun ls hl => ?_)
                refine lv_aload_n hx hb dX0_waysOn_110 rfl (lv_at hl 5 rfl) ?_
                refine va_get (D := D) (v := .ref (q 17)) hx hb hts hin_X0 hown hX.1 hP 2 rfl rfl 2 (by decide) hf_19 (fun _ h9 => h9) rfl dX0_waysOn_111 ?_
                refine lv_iload hx hb dX0_waysOn_114 (lv_at hl 1 rfl) ?_
                refine lv_iconst (v := nI 0) hx hb dX0_waysOn_116 (by decide) ?_
                refine na_zast hx hb hX.1 hP hD hS 17 1 rfl rfl (by omega) (by omega) (by decide) (upd_enc nI _ _ _) dX0_waysOn_117 (fun H locs hP hD hS => ?_)
                have hP : va_P D vwCl (wC q k r S (up2 (up2 Z 2 ((S 8 (Z (10 + e0) i)) / 2) 1) 2 ((S 8 (Z (10 + e0) i)) / 2) 0)) H := sP_C17 hP
                have hD : va_D A (wC q k r S (up2 (up2 Z 2 ((S 8 (Z (10 + e0) i)) / 2) 1) 2 ((S 8 (Z (10 + e0) i)) / 2) 0)) := sD_C17 hD
                refine lv_iinc (v := nI (i + 1)) (lv' := [(6, .int (nI (i + 1))), (5, .int (nI (f + (cx S (oZ Z) t0 b1 (up1 (Z 2) (S 8 (Z (10 + e0) i) / 2) 1) (fl (S 8 (Z (10 + e0) i))))))), (9, .int (nI ((S 8 (Z (10 + e0) i)) / 2))), (8, .int (nI (S 8 (Z (10 + e0) i)))), (7, .int (nI (Z (10 + e0) i))), (0, .ref (q 2)), (1, .ref (q 1)), (2, .int (nI e0)), (3, .int (nI t0)), (4, .int (nI (b1 + 1)))]) hx hb dX0_waysOn_118 hl (k := 4) rfl (nI_add _ 1) (by decide) rfl (fun ls hl => ?_)
                refine lv_goto (tgt := 6) hx hb dX0_waysOn_121 (by decide) ?_
                try rw [up2_back h_60] at hP hD
                exact ih6 (i + 1) ((f + (cx S (oZ Z) t0 b1 (up1 (Z 2) (S 8 (Z (10 + e0) i) / 2) 1) (fl (S 8 (Z (10 + e0) i)))))) (by omega) (by omega) (by rw [sm_s, h3]; first | exact (congrArg (fun z => sm _ 0 i + z) (tm_c (fun q => absurd (of_decide_eq_true q.1) (by omega)))).symm | exact (congrArg (fun z => sm _ 0 i + z) (tm_c (fun q => absurd q.2 (by omega)))).symm | exact (congrArg (fun z => sm _ 0 i + z) (tm_1 (decide_eq_true (show Z 0 (Z (10 + e0) i) = 1 by omega)) h_60 h_69)).symm | exact (congrArg (fun z => sm _ 0 i + z) (tm_0 h_69)).symm | exact (congrArg (fun z => sm _ 0 i + z) (tm_s (decide_eq_true (show Z 0 (Z (10 + e0) i) = 1 by omega)) h_60 h_69)).symm) _ _ hP hD hS ls (lv_sub hl [0, 1, 5, 6, 7, 8, 9] rfl)
            · skip
              refine lv_iinc (v := nI (f + 1)) (lv' := [(5, .int (nI (f + 1))), (9, .int (nI ((S 8 (Z (10 + e0) i)) / 2))), (8, .int (nI (S 8 (Z (10 + e0) i)))), (7, .int (nI (Z (10 + e0) i))), (6, .int (nI i)), (0, .ref (q 2)), (1, .ref (q 1)), (2, .int (nI e0)), (3, .int (nI t0)), (4, .int (nI (b1 + 1)))]) hx hb dX0_waysOn_72 hl (k := 4) rfl (nI_add _ 1) (by decide) rfl (fun ls hl => ?_)
              refine lv_goto (tgt := 118) hx hb dX0_waysOn_75 (by decide) ?_
              refine lv_iinc (v := nI (i + 1)) (lv' := [(6, .int (nI (i + 1))), (5, .int (nI (f + 1))), (9, .int (nI ((S 8 (Z (10 + e0) i)) / 2))), (8, .int (nI (S 8 (Z (10 + e0) i)))), (7, .int (nI (Z (10 + e0) i))), (0, .ref (q 2)), (1, .ref (q 1)), (2, .int (nI e0)), (3, .int (nI t0)), (4, .int (nI (b1 + 1)))]) hx hb dX0_waysOn_118 hl (k := 4) rfl (nI_add _ 1) (by decide) rfl (fun ls hl => ?_)
              refine lv_goto (tgt := 6) hx hb dX0_waysOn_121 (by decide) ?_
              try rw [up2_back h_60] at hP hD
              exact ih6 (i + 1) ((f + 1)) (by omega) (by omega) (by rw [sm_s, h3]; first | exact (congrArg (fun z => sm _ 0 i + z) (tm_c (fun q => absurd (of_decide_eq_true q.1) (by omega)))).symm | exact (congrArg (fun z => sm _ 0 i + z) (tm_c (fun q => absurd q.2 (by omega)))).symm | exact (congrArg (fun z => sm _ 0 i + z) (tm_1 (decide_eq_true (show Z 0 (Z (10 + e0) i) = 1 by omega)) h_60 h_69)).symm | exact (congrArg (fun z => sm _ 0 i + z) (tm_0 h_69)).symm | exact (congrArg (fun z => sm _ 0 i + z) (tm_s (decide_eq_true (show Z 0 (Z (10 + e0) i) = 1 by omega)) h_60 h_69)).symm) _ _ hP hD hS ls (lv_sub hl [0, 1, 5, 6, 7, 8, 9] rfl)
          · skip
            refine lv_goto (tgt := 118) hx hb dX0_waysOn_63 (by decide) ?_
            refine lv_iinc (v := nI (i + 1)) (lv' := [(6, .int (nI (i + 1))), (9, .int (nI ((S 8 (Z (10 + e0) i)) / 2))), (8, .int (nI (S 8 (Z (10 + e0) i)))), (7, .int (nI (Z (10 + e0) i))), (5, .int (nI f)), (0, .ref (q 2)), (1, .ref (q 1)), (2, .int (nI e0)), (3, .int (nI t0)), (4, .int (nI (b1 + 1)))]) hx hb dX0_waysOn_118 hl (k := 3) rfl (nI_add _ 1) (by decide) rfl (fun ls hl => ?_)
            refine lv_goto (tgt := 6) hx hb dX0_waysOn_121 (by decide) ?_
            try rw [up2_back h_60] at hP hD
            exact ih6 (i + 1) f (by omega) (by omega) (by rw [sm_s, h3]; first | exact (congrArg (fun z => sm _ 0 i + z) (tm_c (fun q => absurd (of_decide_eq_true q.1) (by omega)))).symm | exact (congrArg (fun z => sm _ 0 i + z) (tm_c (fun q => absurd q.2 (by omega)))).symm | exact (congrArg (fun z => sm _ 0 i + z) (tm_1 (decide_eq_true (show Z 0 (Z (10 + e0) i) = 1 by omega)) h_60 h_69)).symm | exact (congrArg (fun z => sm _ 0 i + z) (tm_0 h_69)).symm | exact (congrArg (fun z => sm _ 0 i + z) (tm_s (decide_eq_true (show Z 0 (Z (10 + e0) i) = 1 by omega)) h_60 h_69)).symm) _ _ hP hD hS ls (lv_sub hl [0, 4, 5, 6, 7, 8, 9] rfl)
  exact L6 (Z 3 e0 + 1) 0 0 (by omega) (by omega) rfl _ _ hP hD hS ls hl

theorem k_ways (l : Launch) : ∀ b, b ≤ 6 → KWays l b
  | 0, _ => fun D q k r S Z sz e0 t0 hB h0 h2 hL he ht => k_X0_waysOn_0 l D q k r S Z sz e0 t0 hB h0 h2 hL he ht
  | b + 1, hb => fun D q k r S Z sz e0 t0 hB h0 h2 hL he ht => k_X0_waysOn_s l D q k r S Z sz e0 t0 b (k_ways l b (by omega)) (by omega) hB h0 h2 hL he ht
