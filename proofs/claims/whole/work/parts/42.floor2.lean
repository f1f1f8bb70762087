set_option maxHeartbeats 4000000 in
set_option maxRecDepth 100000 in
theorem k_X1_addPiece (l : Launch) (D : va_G) (q : Nat → Nat) (k : Nat → ClassId) (r : Nat → Nat) (S Z : Nat → Nat → Nat) (sz : Nat) (l0 : Nat) (t0 : Nat) (b : Bool) (hm : S 0 0 < 20) : Met l yX1_addPiece wsX1_addPiece ({ frames := 0, cells := 0, slots := 0, locals := 0 } : Room) (va_Pc [.ref (q 1), .int (nI l0), .int (nI t0), .int (nI (bN b))] (wB D k (wC q k r S Z) sz)) (va_Qi (fun (r : Int32) (u : (Nat → Nat → Nat) × (Nat → Nat → Nat)) => r = nI (S 0 0) ∧ u.1 = addQ S l0 t0 (bN b) ∧ u.2 = Z) (fun u t => wE D (va_A (wC q k r S Z) sz) (wC q k r u.1 u.2) t) (va_A (wC q k r S Z) sz)) 0 0 (va_A (wC q k r S Z) sz) := by
  refine Met.ofW (cc := cX1_addPiece) (maxL := 5) (ret := (some .int)) (by decide) rfl ?_
  intro p e s m args below meth c s₁ B hml hv
  obtain ⟨rfl, hsz, hP, hX, hD0⟩ := hv
  have hx := B.exec
  have hb := B.bytes
  have hr := B.returns
  have hts := atoms_spec (ws := wsX1_addPiece) B.pre
  have hown : s.vm.findClass RX1 = some m.cls := findClass_of_methodNamed B.named
  have hlocks := B.notSynchronized
  subst hsz
  have hD := hD0.self (sz := s.heap.size)
  generalize hAe : va_A (wC q k r S Z) s.heap.size = A at hD ⊢
  have hA : ∀ q : Nat, s.heap.size ≤ q → A q := fun q h => by rw [← hAe]; exact Or.inr h
  have hS : va_S A s.heap s.heap [] := va_S.rf
  have hP : va_P D vwCl (wC q k r S Z) s.heap := hP
  have hf_9 := hts (.fieldLink RX1 9 "FloorGraph$Floor" "levels" "[I") (by decide +kernel)
  have hf_15 := hts (.fieldLink RX1 15 "FloorGraph$Floor" "lengths" "[I") (by decide +kernel)
  have hf_18 := hts (.fieldLink RX1 18 "FloorGraph$Floor" "widths" "[I") (by decide +kernel)
  have hf_21 := hts (.fieldLink RX1 21 "FloorGraph$Floor" "twoWay" "[Z") (by decide +kernel)
  have hf_51 := hts (.fieldLink RX1 51 "FloorGraph$Floor" "pieces" "I") (by decide +kernel)
  have hin_X1 : ∀ w ∈ u_ws RX1 TX1 14, w ∈ wsX1_addPiece := by decide +kernel
  have hl := lv_entry ([.ref (q 1), .int (nI l0), .int (nI t0), .int (nI (bN b))]) (n := 5) (Nat.le_of_ble_eq_true rfl)
  rw [lg_entry_eq]
  generalize (lg_sl ([.ref (q 1), .int (nI l0), .int (nI t0), .int (nI (bN b))]) ++ List.replicate (5 - (lg_sl ([.ref (q 1), .int (nI l0), .int (nI t0), .int (nI (bN b))])).length) Slot.unset).toArray = ls at hl ⊢
  have hl : lv_has ls 5 [(0, .ref (q 1)), (1, .int (nI l0)), (2, .int (nI t0)), (3, .int (nI (bN b)))] := hl
  refine lv_aload_n hx hb dX1_addPiece_0 rfl (lv_at hl 0 rfl) ?_
  refine va_get (D := D) (v := .int (nI (S 0 0))) hx hb hts hin_X1 hown hX.1 hP 1 rfl rfl 0 (by decide) hf_51 (fun _ h9 => h9) rfl dX1_addPiece_1 ?_
  refine lv_istore (lv' := [(4, .int (nI (S 0 0))), (0, .ref (q 1)), (1, .int (nI l0)), (2, .int (nI t0)), (3, .int (nI (bN b)))]) hx hb dX1_addPiece_4 hl (by decide) rfl (fun ls hl => ?_)
  refine lv_aload_n hx hb dX1_addPiece_6 rfl (lv_at hl 1 rfl) ?_
  refine va_get (D := D) (v := .ref (q 3)) hx hb hts hin_X1 hown hX.1 hP 1 rfl rfl 1 (by decide) hf_9 (fun _ h9 => h9) rfl dX1_addPiece_7 ?_
  refine lv_iload hx hb dX1_addPiece_10 (lv_at hl 0 rfl) ?_
  refine lv_iload_n hx hb dX1_addPiece_12 rfl (lv_at hl 2 rfl) ?_
  refine na_iast hx hb hX.1 hP hD hS 3 0 rfl rfl (by omega) (by decide) (upd_enc nI _ _ _) dX1_addPiece_13 (fun H locs hP hD hS => ?_)
  have hP : va_P D vwCl (wC q k r (up2 S 1 (S 0 0) l0) Z) H := sP_C3 hP
  have hD : va_D A (wC q k r (up2 S 1 (S 0 0) l0) Z) := sD_C3 hD
  refine lv_aload_n hx hb dX1_addPiece_14 rfl (lv_at hl 1 rfl) ?_
  refine va_get (D := D) (v := .ref (q 4)) hx hb hts hin_X1 hown hX.1 hP 1 rfl rfl 2 (by decide) hf_15 (fun _ h9 => h9) rfl dX1_addPiece_15 ?_
  refine lv_iload hx hb dX1_addPiece_18 (lv_at hl 0 rfl) ?_
  refine lv_iload_n hx hb dX1_addPiece_20 rfl (lv_at hl 3 rfl) ?_
  refine na_iast hx hb hX.1 hP hD hS 4 0 rfl rfl (by omega) (by decide) (upd_enc nI _ _ _) dX1_addPiece_21 (fun H locs hP hD hS => ?_)
  have hP : va_P D vwCl (wC q k r (up2 (up2 S 1 (S 0 0) l0) 2 (S 0 0) t0) Z) H := sP_C4 hP
  have hD : va_D A (wC q k r (up2 (up2 S 1 (S 0 0) l0) 2 (S 0 0) t0) Z) := sD_C4 hD
  refine lv_aload_n hx hb dX1_addPiece_22 rfl (lv_at hl 1 rfl) ?_
  refine va_get (D := D) (v := .ref (q 5)) hx hb hts hin_X1 hown hX.1 hP 1 rfl rfl 3 (by decide) hf_18 (fun _ h9 => h9) rfl dX1_addPiece_23 ?_
  refine lv_iload hx hb dX1_addPiece_26 (lv_at hl 0 rfl) ?_
  refine lv_bipush (v := nI 100) hx hb dX1_addPiece_28 (by decide) ?_
  refine na_iast hx hb hX.1 hP hD hS 5 0 rfl rfl (by omega) (by decide) (upd_enc nI _ _ _) dX1_addPiece_30 (fun H locs hP hD hS => ?_)
  have hP : va_P D vwCl (wC q k r (up2 (up2 (up2 S 1 (S 0 0) l0) 2 (S 0 0) t0) 3 (S 0 0) 100) Z) H := sP_C5 hP
  have hD : va_D A (wC q k r (up2 (up2 (up2 S 1 (S 0 0) l0) 2 (S 0 0) t0) 3 (S 0 0) 100) Z) := sD_C5 hD
  refine lv_aload_n hx hb dX1_addPiece_31 rfl (lv_at hl 1 rfl) ?_
  refine va_get (D := D) (v := .ref (q 6)) hx hb hts hin_X1 hown hX.1 hP 1 rfl rfl 4 (by decide) hf_21 (fun _ h9 => h9) rfl dX1_addPiece_32 ?_
  refine lv_iload hx hb dX1_addPiece_35 (lv_at hl 0 rfl) ?_
  refine lv_iload_n hx hb dX1_addPiece_37 rfl (lv_at hl 4 rfl) ?_
  refine na_zast hx hb hX.1 hP hD hS 6 1 rfl rfl (bN_le _) (by omega) (by decide) (upd_enc nI _ _ _) dX1_addPiece_38 (fun H locs hP hD hS => ?_)
  have hP : va_P D vwCl (wC q k r (up2 (up2 (up2 (up2 S 1 (S 0 0) l0) 2 (S 0 0) t0) 3 (S 0 0) 100) 4 (S 0 0) (bN b)) Z) H := sP_C6 hP
  have hD : va_D A (wC q k r (up2 (up2 (up2 (up2 S 1 (S 0 0) l0) 2 (S 0 0) t0) 3 (S 0 0) 100) 4 (S 0 0) (bN b)) Z) := sD_C6 hD
  refine lv_aload_n hx hb dX1_addPiece_39 rfl (lv_at hl 1 rfl) ?_
  refine lv_dup hx hb dX1_addPiece_40 rfl ?_
  refine va_get (D := D) (v := .int (nI (S 0 0))) hx hb hts hin_X1 hown hX.1 hP 1 rfl rfl 0 (by decide) hf_51 (fun _ h9 => h9) rfl dX1_addPiece_41 ?_
  refine lv_iconst (v := nI 1) hx hb dX1_addPiece_44 (by decide) ?_
  refine na_iadd hx hb dX1_addPiece_45 ?_
  refine va_put (D := D) (v := .int (nI ((S 0 0) + 1))) (ty := .int) hx hb hts hin_X1 tyX1 tyX1_ok nmX1 hown hX.1 hP hD hS 1 rfl rfl 0 (by decide) hf_51 (fun _ h9 => h9) rfl (by decide +kernel) rfl rfl (Nat.le_of_ble_eq_true rfl) dX1_addPiece_46 (fun H locs hP hD hS => ?_)
  have hP : va_P D vwCl (wC q k r (up2 (up2 (up2 (up2 (up2 S 1 (S 0 0) l0) 2 (S 0 0) t0) 3 (S 0 0) 100) 4 (S 0 0) (bN b)) 0 0 ((S 0 0) + 1)) Z) H := sP_C1_0 hP
  have hD : va_D A (wC q k r (up2 (up2 (up2 (up2 (up2 S 1 (S 0 0) l0) 2 (S 0 0) t0) 3 (S 0 0) 100) 4 (S 0 0) (bN b)) 0 0 ((S 0 0) + 1)) Z) := sD_C1_0 hD
  refine lv_iload hx hb dX1_addPiece_49 (lv_at hl 0 rfl) ?_
  exact W.iret (v := nI (S 0 0)) hx hb hr (fun t ht hW => ⟨⟨_, ((up2 (up2 (up2 (up2 (up2 S 1 (S 0 0) l0) 2 (S 0 0) t0) 3 (S 0 0) 100) 4 (S 0 0) (bN b)) 0 0 ((S 0 0) + 1)), Z), rfl, ⟨rfl, rfl, rfl⟩, by rw [ht]; exact hP, hD⟩, hS.F ht⟩) hS.2.2 dX1_addPiece_51

set_option maxHeartbeats 4000000 in
set_option maxRecDepth 100000 in
theorem k_X1_addPassage (l : Launch) (D : va_G) (q : Nat → Nat) (k : Nat → ClassId) (r : Nat → Nat) (S Z : Nat → Nat → Nat) (sz : Nat) (s0 : Nat) (g0 : Nat) (t0 : Nat) (hm : S 0 1 < 80) (hs : s0 < 40) (hz : Z 3 s0 < 40) : Met l yX1_addPassage wsX1_addPassage ({ frames := 0, cells := 0, slots := 0, locals := 0 } : Room) (va_Pc [.ref (q 1), .int (nI s0), .int (nI g0), .int (nI t0)] (wB D k (wC q k r S Z) sz)) (va_Qv (fun (u : (Nat → Nat → Nat) × (Nat → Nat → Nat)) => u.1 = addA S s0 g0 t0 ∧ u.2 = up2 (up2 Z (10 + s0) (Z 3 s0) (S 0 1)) 3 s0 (Z 3 s0 + 1)) (fun u t => wE D (va_A (wC q k r S Z) sz) (wC q k r u.1 u.2) t) (va_A (wC q k r S Z) sz)) 0 0 (va_A (wC q k r S Z) sz) := by
  refine Met.ofW (cc := cX1_addPassage) (maxL := 4) (ret := none) (by decide) rfl ?_
  intro p e s m args below meth c s₁ B hml hv
  obtain ⟨rfl, hsz, hP, hX, hD0⟩ := hv
  have hx := B.exec
  have hb := B.bytes
  have hr := B.returns
  have hts := atoms_spec (ws := wsX1_addPassage) B.pre
  have hown : s.vm.findClass RX1 = some m.cls := findClass_of_methodNamed B.named
  have hlocks := B.notSynchronized
  subst hsz
  have hD := hD0.self (sz := s.heap.size)
  generalize hAe : va_A (wC q k r S Z) s.heap.size = A at hD ⊢
  have hA : ∀ q : Nat, s.heap.size ≤ q → A q := fun q h => by rw [← hAe]; exact Or.inr h
  have hS : va_S A s.heap s.heap [] := va_S.rf
  have hP : va_P D vwCl (wC q k r S Z) s.heap := hP
  have hf_31 := hts (.fieldLink RX1 31 "FloorGraph$Floor" "starts" "[I") (by decide +kernel)
  have hf_34 := hts (.fieldLink RX1 34 "FloorGraph$Floor" "goals" "[I") (by decide +kernel)
  have hf_37 := hts (.fieldLink RX1 37 "FloorGraph$Floor" "turnSeconds" "[I") (by decide +kernel)
  have hf_45 := hts (.fieldLink RX1 45 "FloorGraph$Floor" "leaving" "[[I") (by decide +kernel)
  have hf_48 := hts (.fieldLink RX1 48 "FloorGraph$Floor" "leavings" "[I") (by decide +kernel)
  have hf_59 := hts (.fieldLink RX1 59 "FloorGraph$Floor" "passages" "I") (by decide +kernel)
  have hin_X1 : ∀ w ∈ u_ws RX1 TX1 14, w ∈ wsX1_addPassage := by decide +kernel
  have hl := lv_entry ([.ref (q 1), .int (nI s0), .int (nI g0), .int (nI t0)]) (n := 4) (Nat.le_of_ble_eq_true rfl)
  rw [lg_entry_eq]
  generalize (lg_sl ([.ref (q 1), .int (nI s0), .int (nI g0), .int (nI t0)]) ++ List.replicate (4 - (lg_sl ([.ref (q 1), .int (nI s0), .int (nI g0), .int (nI t0)])).length) Slot.unset).toArray = ls at hl ⊢
  have hl : lv_has ls 4 [(0, .ref (q 1)), (1, .int (nI s0)), (2, .int (nI g0)), (3, .int (nI t0))] := hl
  refine lv_aload_n hx hb dX1_addPassage_0 rfl (lv_at hl 0 rfl) ?_
  refine va_get (D := D) (v := .ref (q 9)) hx hb hts hin_X1 hown hX.1 hP 1 rfl rfl 8 (by decide) hf_31 (fun _ h9 => h9) rfl dX1_addPassage_1 ?_
  refine lv_aload_n hx hb dX1_addPassage_4 rfl (lv_at hl 0 rfl) ?_
  refine va_get (D := D) (v := .int (nI (S 0 1))) hx hb hts hin_X1 hown hX.1 hP 1 rfl rfl 7 (by decide) hf_59 (fun _ h9 => h9) rfl dX1_addPassage_5 ?_
  refine lv_iload_n hx hb dX1_addPassage_8 rfl (lv_at hl 1 rfl) ?_
  refine na_iast hx hb hX.1 hP hD hS 9 0 rfl rfl (by omega) (by decide) (upd_enc nI _ _ _) dX1_addPassage_9 (fun H locs hP hD hS => ?_)
  have hP : va_P D vwCl (wC q k r (up2 S 7 (S 0 1) s0) Z) H := sP_C9 hP
  have hD : va_D A (wC q k r (up2 S 7 (S 0 1) s0) Z) := sD_C9 hD
  refine lv_aload_n hx hb dX1_addPassage_10 rfl (lv_at hl 0 rfl) ?_
  refine va_get (D := D) (v := .ref (q 10)) hx hb hts hin_X1 hown hX.1 hP 1 rfl rfl 9 (by decide) hf_34 (fun _ h9 => h9) rfl dX1_addPassage_11 ?_
  refine lv_aload_n hx hb dX1_addPassage_14 rfl (lv_at hl 0 rfl) ?_
  refine va_get (D := D) (v := .int (nI (S 0 1))) hx hb hts hin_X1 hown hX.1 hP 1 rfl rfl 7 (by decide) hf_59 (fun _ h9 => h9) rfl dX1_addPassage_15 ?_
  refine lv_iload_n hx hb dX1_addPassage_18 rfl (lv_at hl 2 rfl) ?_
  refine na_iast hx hb hX.1 hP hD hS 10 0 rfl rfl (by omega) (by decide) (upd_enc nI _ _ _) dX1_addPassage_19 (fun H locs hP hD hS => ?_)
  have hP : va_P D vwCl (wC q k r (up2 (up2 S 7 (S 0 1) s0) 8 (S 0 1) g0) Z) H := sP_C10 hP
  have hD : va_D A (wC q k r (up2 (up2 S 7 (S 0 1) s0) 8 (S 0 1) g0) Z) := sD_C10 hD
  refine lv_aload_n hx hb dX1_addPassage_20 rfl (lv_at hl 0 rfl) ?_
  refine va_get (D := D) (v := .ref (q 11)) hx hb hts hin_X1 hown hX.1 hP 1 rfl rfl 10 (by decide) hf_37 (fun _ h9 => h9) rfl dX1_addPassage_21 ?_
  refine lv_aload_n hx hb dX1_addPassage_24 rfl (lv_at hl 0 rfl) ?_
  refine va_get (D := D) (v := .int (nI (S 0 1))) hx hb hts hin_X1 hown hX.1 hP 1 rfl rfl 7 (by decide) hf_59 (fun _ h9 => h9) rfl dX1_addPassage_25 ?_
  refine lv_iload_n hx hb dX1_addPassage_28 rfl (lv_at hl 3 rfl) ?_
  refine na_iast hx hb hX.1 hP hD hS 11 0 rfl rfl (by omega) (by decide) (upd_enc nI _ _ _) dX1_addPassage_29 (fun H locs hP hD hS => ?_)
  have hP : va_P D vwCl (wC q k r (up2 (up2 (up2 S 7 (S 0 1) s0) 8 (S 0 1) g0) 9 (S 0 1) t0) Z) H := sP_C11 hP
  have hD : va_D A (wC q k r (up2 (up2 (up2 S 7 (S 0 1) s0) 8 (S 0 1) g0) 9 (S 0 1) t0) Z) := sD_C11 hD
  refine lv_aload_n hx hb dX1_addPassage_30 rfl (lv_at hl 0 rfl) ?_
  refine va_get (D := D) (v := .ref (q 13)) hx hb hts hin_X1 hown hX.1 hP 1 rfl rfl 12 (by decide) hf_45 (fun _ h9 => h9) rfl dX1_addPassage_31 ?_
  refine lv_iload_n hx hb dX1_addPassage_34 rfl (lv_at hl 1 rfl) ?_
  refine na_aald (b := r s0) hx hb hX.1 hP 13 2 rfl rfl hs (by decide) (if_pos hs) dX1_addPassage_35 ?_
  refine lv_aload_n hx hb dX1_addPassage_36 rfl (lv_at hl 0 rfl) ?_
  refine va_get (D := D) (v := .ref (q 14)) hx hb hts hin_X1 hown hX.1 hP 1 rfl rfl 13 (by decide) hf_48 (fun _ h9 => h9) rfl dX1_addPassage_37 ?_
  refine lv_iload_n hx hb dX1_addPassage_40 rfl (lv_at hl 1 rfl) ?_
  refine na_iald hx hb hX.1 hP 14 0 rfl rfl (by omega) (by decide) dX1_addPassage_41 ?_
  refine lv_aload_n hx hb dX1_addPassage_42 rfl (lv_at hl 0 rfl) ?_
  refine va_get (D := D) (v := .int (nI (S 0 1))) hx hb hts hin_X1 hown hX.1 hP 1 rfl rfl 7 (by decide) hf_59 (fun _ h9 => h9) rfl dX1_addPassage_43 ?_
  refine na_iast hx hb hX.1 hP hD hS (23 + s0) 0 (wC_leav hs) rfl (by omega) (by decide) (upd_enc nI _ _ _) dX1_addPassage_46 (fun H locs hP hD hS => ?_)
  rw [wC_setL hs] at hP hD
  refine lv_aload_n hx hb dX1_addPassage_47 rfl (lv_at hl 0 rfl) ?_
  refine va_get (D := D) (v := .ref (q 14)) hx hb hts hin_X1 hown hX.1 hP 1 rfl rfl 13 (by decide) hf_48 (fun _ h9 => h9) rfl dX1_addPassage_48 ?_
  refine lv_iload_n hx hb dX1_addPassage_51 rfl (lv_at hl 1 rfl) ?_
  refine lv_dup2_11 hx hb dX1_addPassage_52 rfl rfl ?_
  refine na_iald hx hb hX.1 hP 14 0 rfl rfl (by omega) (by decide) dX1_addPassage_53 ?_
  refine na_as (y := nI (Z 3 s0)) (congrArg nI (up2_row Z _ _ (by omega) s0)) ?_
  refine lv_iconst (v := nI 1) hx hb dX1_addPassage_54 (by decide) ?_
  refine na_iadd hx hb dX1_addPassage_55 ?_
  refine na_iast hx hb hX.1 hP hD hS 14 0 rfl rfl (by omega) (by decide) (upd_enc nI _ _ _) dX1_addPassage_56 (fun H locs hP hD hS => ?_)
  have hP : va_P D vwCl (wC q k r (up2 (up2 (up2 S 7 (S 0 1) s0) 8 (S 0 1) g0) 9 (S 0 1) t0) (up2 (up2 Z (10 + s0) (Z 3 s0) (S 0 1)) 3 s0 ((Z 3 s0) + 1))) H := sP_C14 hP
  have hD : va_D A (wC q k r (up2 (up2 (up2 S 7 (S 0 1) s0) 8 (S 0 1) g0) 9 (S 0 1) t0) (up2 (up2 Z (10 + s0) (Z 3 s0) (S 0 1)) 3 s0 ((Z 3 s0) + 1))) := sD_C14 hD
  refine lv_aload_n hx hb dX1_addPassage_57 rfl (lv_at hl 0 rfl) ?_
  refine lv_dup hx hb dX1_addPassage_58 rfl ?_
  refine va_get (D := D) (v := .int (nI (S 0 1))) hx hb hts hin_X1 hown hX.1 hP 1 rfl rfl 7 (by decide) hf_59 (fun _ h9 => h9) rfl dX1_addPassage_59 ?_
  refine lv_iconst (v := nI 1) hx hb dX1_addPassage_62 (by decide) ?_
  refine na_iadd hx hb dX1_addPassage_63 ?_
  refine va_put (D := D) (v := .int (nI ((S 0 1) + 1))) (ty := .int) hx hb hts hin_X1 tyX1 tyX1_ok nmX1 hown hX.1 hP hD hS 1 rfl rfl 7 (by decide) hf_59 (fun _ h9 => h9) rfl (by decide +kernel) rfl rfl (Nat.le_of_ble_eq_true rfl) dX1_addPassage_64 (fun H locs hP hD hS => ?_)
  have hP : va_P D vwCl (wC q k r (up2 (up2 (up2 (up2 S 7 (S 0 1) s0) 8 (S 0 1) g0) 9 (S 0 1) t0) 0 1 ((S 0 1) + 1)) (up2 (up2 Z (10 + s0) (Z 3 s0) (S 0 1)) 3 s0 ((Z 3 s0) + 1))) H := sP_C1_7 hP
  have hD : va_D A (wC q k r (up2 (up2 (up2 (up2 S 7 (S 0 1) s0) 8 (S 0 1) g0) 9 (S 0 1) t0) 0 1 ((S 0 1) + 1)) (up2 (up2 Z (10 + s0) (Z 3 s0) (S 0 1)) 3 s0 ((Z 3 s0) + 1))) := sD_C1_7 hD
  exact W.vret hx hb hr (fun t ht hW => ⟨⟨((up2 (up2 (up2 (up2 S 7 (S 0 1) s0) 8 (S 0 1) g0) 9 (S 0 1) t0) 0 1 ((S 0 1) + 1)), (up2 (up2 Z (10 + s0) (Z 3 s0) (S 0 1)) 3 s0 ((Z 3 s0) + 1))), rfl, ⟨rfl, rfl⟩, by rw [ht]; exact hP, hD⟩, hS.F ht⟩) hS.2.2 dX1_addPassage_67

set_option maxHeartbeats 4000000 in
set_option maxRecDepth 100000 in
theorem k_X1_addJoin (l : Launch) (D : va_G) (q : Nat → Nat) (k : Nat → ClassId) (r : Nat → Nat) (S Z : Nat → Nat → Nat) (sz : Nat) (s0 : Nat) (g0 : Nat) (t0 : Nat) (hm : S 0 1 + 1 < 80) (hs : s0 < 40) (hg : g0 < 40) (hne : s0 ≠ g0) (hz : Z 3 s0 < 40) (hy : Z 3 g0 < 40) : Met l yX1_addJoin wsX1_addJoin ({ frames := 1, cells := 0, slots := 0, locals := 23 } : Room) (va_Pc [.ref (q 1), .int (nI s0), .int (nI g0), .int (nI t0)] (wB D k (wC q k r S Z) sz)) (va_Qi (fun (r : Int32) (u : (Nat → Nat → Nat) × (Nat → Nat → Nat)) => r = nI (S 0 1 / 2) ∧ u.1 = addA (addA S s0 g0 t0) g0 s0 t0 ∧ u.2 = lv2 S Z s0 g0 t0) (fun u t => wE D (va_A (wC q k r S Z) sz) (wC q k r u.1 u.2) t) (va_A (wC q k r S Z) sz)) 0 0 (va_A (wC q k r S Z) sz) := by
  refine Met.ofW (cc := cX1_addJoin) (maxL := 4) (ret := (some .int)) (by decide) rfl ?_
  intro p e s m args below meth c s₁ B hml hv
  obtain ⟨rfl, hsz, hP, hX, hD0⟩ := hv
  have hx := B.exec
  have hb := B.bytes
  have hr := B.returns
  have hts := atoms_spec (ws := wsX1_addJoin) B.pre
  have hown : s.vm.findClass RX1 = some m.cls := findClass_of_methodNamed B.named
  have hlocks := B.notSynchronized
  subst hsz
  have hD := hD0.self (sz := s.heap.size)
  generalize hAe : va_A (wC q k r S Z) s.heap.size = A at hD ⊢
  have hA : ∀ q : Nat, s.heap.size ≤ q → A q := fun q h => by rw [← hAe]; exact Or.inr h
  have hS : va_S A s.heap s.heap [] := va_S.rf
  have hP : va_P D vwCl (wC q k r S Z) s.heap := hP
  have hf_59 := hts (.fieldLink RX1 59 "FloorGraph$Floor" "passages" "I") (by decide +kernel)
  have hin_X1 : ∀ w ∈ u_ws RX1 TX1 14, w ∈ wsX1_addJoin := by decide +kernel
  have hl := lv_entry ([.ref (q 1), .int (nI s0), .int (nI g0), .int (nI t0)]) (n := 4) (Nat.le_of_ble_eq_true rfl)
  rw [lg_entry_eq]
  generalize (lg_sl ([.ref (q 1), .int (nI s0), .int (nI g0), .int (nI t0)]) ++ List.replicate (4 - (lg_sl ([.ref (q 1), .int (nI s0), .int (nI g0), .int (nI t0)])).length) Slot.unset).toArray = ls at hl ⊢
  have hl : lv_has ls 4 [(0, .ref (q 1)), (1, .int (nI s0)), (2, .int (nI g0)), (3, .int (nI t0))] := hl
  refine lv_aload_n hx hb dX1_addJoin_0 rfl (lv_at hl 0 rfl) ?_
  refine lv_iload_n hx hb dX1_addJoin_1 rfl (lv_at hl 1 rfl) ?_
  refine lv_iload_n hx hb dX1_addJoin_2 rfl (lv_at hl 2 rfl) ?_
  refine lv_iload_n hx hb dX1_addJoin_3 rfl (lv_at hl 3 rfl) ?_
  refine wr_Vv (As := [.int (nI s0), .int (nI g0), .int (nI t0)]) (rest := []) ⟨hx, hb, hml, hown, hts⟩ (k_X1_addPassage l D q k r S Z _ s0 g0 t0 (by omega) hs hz) (cwV 3 hts gX1_addJoin_X1_addPassage rfl rfl rfl (by decide +kernel) ⟨by decide, by decide⟩) hX hP hD hS hA (q0 := 1) rfl rfl rfl hl.1 rfl (Nat.le_of_ble_eq_true rfl) dX1_addJoin_4 ⟨Nat.le_of_ble_eq_true rfl, Nat.le_of_ble_eq_true rfl⟩ (fun u_1 H locs hw_1 hP hD hS => ?_)
  obtain ⟨S_1, Z_1⟩ := u_1
  obtain ⟨e1, e2⟩ := hw_1
  dsimp only at e1 e2 hP hD
  rw [e1, e2] at hP hD
  have hP : va_P D vwCl (wC q k r (addA S s0 g0 t0) (up2 (up2 Z (10 + s0) (Z 3 s0) (S 0 1)) 3 s0 (Z 3 s0 + 1))) H := hP
  have hD : va_D A (wC q k r (addA S s0 g0 t0) (up2 (up2 Z (10 + s0) (Z 3 s0) (S 0 1)) 3 s0 (Z 3 s0 + 1))) := hD
  refine lv_aload_n hx hb dX1_addJoin_7 rfl (lv_at hl 0 rfl) ?_
  refine lv_iload_n hx hb dX1_addJoin_8 rfl (lv_at hl 2 rfl) ?_
  refine lv_iload_n hx hb dX1_addJoin_9 rfl (lv_at hl 1 rfl) ?_
  refine lv_iload_n hx hb dX1_addJoin_10 rfl (lv_at hl 3 rfl) ?_
  refine wr_Vv (As := [.int (nI g0), .int (nI s0), .int (nI t0)]) (rest := []) ⟨hx, hb, hml, hown, hts⟩ (k_X1_addPassage l D q k r (addA S s0 g0 t0) (up2 (up2 Z (10 + s0) (Z 3 s0) (S 0 1)) 3 s0 (Z 3 s0 + 1)) _ g0 s0 t0 (by show S 0 1 + 1 < 80; omega) hg (by rw [up2_ne _ _ _ (show g0 ≠ s0 by omega), up2_row _ _ _ (by omega)]; exact hy)) (cwV 3 hts gX1_addJoin_X1_addPassage rfl rfl rfl (by decide +kernel) ⟨by decide, by decide⟩) hX hP hD hS hA (q0 := 1) rfl rfl rfl hl.1 rfl (Nat.le_of_ble_eq_true rfl) dX1_addJoin_11 ⟨Nat.le_of_ble_eq_true rfl, Nat.le_of_ble_eq_true rfl⟩ (fun u_2 H locs hw_2 hP hD hS => ?_)
  obtain ⟨S_2, Z_2⟩ := u_2
  obtain ⟨e1, e2⟩ := hw_2
  dsimp only at e1 e2 hP hD
  rw [e1, e2] at hP hD
  have hP : va_P D vwCl (wC q k r (addA (addA S s0 g0 t0) g0 s0 t0) (up2 (up2 (up2 (up2 Z (10 + s0) (Z 3 s0) (S 0 1)) 3 s0 (Z 3 s0 + 1)) (10 + g0) ((up2 (up2 Z (10 + s0) (Z 3 s0) (S 0 1)) 3 s0 (Z 3 s0 + 1)) 3 g0) ((addA S s0 g0 t0) 0 1)) 3 g0 ((up2 (up2 Z (10 + s0) (Z 3 s0) (S 0 1)) 3 s0 (Z 3 s0 + 1)) 3 g0 + 1))) H := hP
  have hD : va_D A (wC q k r (addA (addA S s0 g0 t0) g0 s0 t0) (up2 (up2 (up2 (up2 Z (10 + s0) (Z 3 s0) (S 0 1)) 3 s0 (Z 3 s0 + 1)) (10 + g0) ((up2 (up2 Z (10 + s0) (Z 3 s0) (S 0 1)) 3 s0 (Z 3 s0 + 1)) 3 g0) ((addA S s0 g0 t0) 0 1)) 3 g0 ((up2 (up2 Z (10 + s0) (Z 3 s0) (S 0 1)) 3 s0 (Z 3 s0 + 1)) 3 g0 + 1))) := hD
  refine lv_aload_n hx hb dX1_addJoin_14 rfl (lv_at hl 0 rfl) ?_
  refine va_get (D := D) (v := .int (nI ((addA (addA S s0 g0 t0) g0 s0 t0) 0 1))) hx hb hts hin_X1 hown hX.1 hP 1 rfl rfl 7 (by decide) hf_59 (fun _ h9 => h9) rfl dX1_addJoin_15 ?_
  refine na_as (y := nI (S 0 1 + 1 + 1)) rfl ?_
  refine lv_iconst (v := nI 2) hx hb dX1_addJoin_18 (by decide) ?_
  refine na_idiv2 hx hb (by omega) dX1_addJoin_19 ?_
  refine lv_iconst (v := nI 1) hx hb dX1_addJoin_20 (by decide) ?_
  refine na_isub hx hb (by omega) dX1_addJoin_21 ?_
  exact W.iret (v := nI (((S 0 1 + 1 + 1) / 2) - 1)) hx hb hr (fun t ht hW => ⟨⟨_, ((addA (addA S s0 g0 t0) g0 s0 t0), (up2 (up2 (up2 (up2 Z (10 + s0) (Z 3 s0) (S 0 1)) 3 s0 (Z 3 s0 + 1)) (10 + g0) ((up2 (up2 Z (10 + s0) (Z 3 s0) (S 0 1)) 3 s0 (Z 3 s0 + 1)) 3 g0) ((addA S s0 g0 t0) 0 1)) 3 g0 ((up2 (up2 Z (10 + s0) (Z 3 s0) (S 0 1)) 3 s0 (Z 3 s0 + 1)) 3 g0 + 1))), rfl, ⟨congrArg nI (by omega), rfl, rfl⟩, by rw [ht]; exact hP, hD⟩, hS.F ht⟩) hS.2.2 dX1_addJoin_22

set_option maxHeartbeats 4000000 in
set_option maxRecDepth 100000 in
theorem k_X0_trace (l : Launch) (D : va_G) (q : Nat → Nat) (k : Nat → ClassId) (r : Nat → Nat) (S Z : Nat → Nat → Nat) (sz : Nat) (a0 : Nat) (t0 : Nat) (hB : Bd S) (hZ1 : ∀ e, Z 1 e ≤ 1000000) (hZ0 : ∀ p, Z 0 p ≤ 1) (hGw : Gw S) (hF : Fx S (oZ Z) a0 (Z 1)) (ha : a0 < S 0 0) (hT0 : t0 < S 0 0) : Met l yX0_trace wsX0_trace ({ frames := 3, cells := 0, slots := 0, locals := 69 } : Room) (va_Pc [.ref (q 2), .ref (q 1), .int (nI a0), .int (nI t0), .ref (q 20)] (wB D k (wC q k r S Z) sz)) (va_Qi (fun (r : Int32) (u : (Nat → Nat → Nat) × (Nat → Nat → Nat)) => r = nI (wayE S (oZ Z) (Z 1) a0 t0).2 ∧ u.1 = upR S 14 (wayE S (oZ Z) (Z 1) a0 t0).1 ∧ u.2 = Z) (fun u t => wE D (va_A (wC q k r S Z) sz) (wC q k r u.1 u.2) t) (va_A (wC q k r S Z) sz)) 0 0 (va_A (wC q k r S Z) sz) := by
  refine Met.ofW (cc := cX0_trace) (maxL := 8) (ret := (some .int)) (by decide) rfl ?_
  intro p e s m args below meth c s₁ B hml hv
  obtain ⟨rfl, hsz, hP, hX, hD0⟩ := hv
  have hx := B.exec
  have hb := B.bytes
  have hr := B.returns
  have hts := atoms_spec (ws := wsX0_trace) B.pre
  have hown : s.vm.findClass RX0 = some m.cls := findClass_of_methodNamed B.named
  have hlocks := B.notSynchronized
  subst hsz
  have hD := hD0.self (sz := s.heap.size)
  generalize hAe : va_A (wC q k r S Z) s.heap.size = A at hD ⊢
  have hA : ∀ q : Nat, s.heap.size ≤ q → A q := fun q h => by rw [← hAe]; exact Or.inr h
  have hS : va_S A s.heap s.heap [] := va_S.rf
  have hP : va_P D vwCl (wC q k r S Z) s.heap := hP
  have hf_57 : (Cond.fieldLinkNest "FloorGraph$Drive" 57 "FloorGraph$Floor" "starts" "[I" "FloorGraph").before _ s = true := va_Nw.use (A := [.ref (q 2), .ref (q 1), .int (nI a0), .int (nI t0), .ref (q 20)].toArray) rfl (hX.2.1 ("FloorGraph$Drive", 57, "FloorGraph$Floor", "starts", "[I", "FloorGraph") (by decide +kernel))
  have hin_X1 : ∀ w ∈ u_ws RX1 TX1 14, w ∈ wsX0_trace := by decide +kernel
  have f0 := hB.1
  have hlm := lpB_min (S := S) (o := oZ Z) (r := Z 1) (t := t0) (S 0 1)
  have hlo := lpB_ok (S := S) (o := oZ Z) (r := Z 1) (t := t0) (S 0 1)
  have hl := lv_entry ([.ref (q 2), .ref (q 1), .int (nI a0), .int (nI t0), .ref (q 20)]) (n := 8) (Nat.le_of_ble_eq_true rfl)
  rw [lg_entry_eq]
  generalize (lg_sl ([.ref (q 2), .ref (q 1), .int (nI a0), .int (nI t0), .ref (q 20)]) ++ List.replicate (8 - (lg_sl ([.ref (q 2), .ref (q 1), .int (nI a0), .int (nI t0), .ref (q 20)])).length) Slot.unset).toArray = ls at hl ⊢
  have hl : lv_has ls 8 [(0, .ref (q 2)), (1, .ref (q 1)), (2, .int (nI a0)), (3, .int (nI t0)), (4, .ref (q 20))] := hl
  refine lv_iload_n hx hb dX0_trace_0 rfl (lv_at hl 2 rfl) ?_
  refine lv_iload_n hx hb dX0_trace_1 rfl (lv_at hl 3 rfl) ?_
  refine na_icmp_ne (tgt := 12) hx hb (by omega) (by omega) dX0_trace_2 (by decide) (fun h_2 => ?_) (fun h_2 => ?_)
  · skip
    refine lv_aload_n hx hb dX0_trace_12 rfl (lv_at hl 0 rfl) ?_
    refine lv_aload_n hx hb dX0_trace_13 rfl (lv_at hl 1 rfl) ?_
    refine lv_iload_n hx hb dX0_trace_14 rfl (lv_at hl 3 rfl) ?_
    refine rd_V (As := [.ref (q 1), .int (nI t0)]) (rest := []) ⟨hx, hb, hml, hown, hts⟩ (k_X0_lastPassage l D q k r S Z t0 hB hZ1 hZ0 (by omega)) (cwV 2 hts gX0_trace_X0_lastPassage rfl rfl rfl (by decide +kernel) ⟨by decide, by decide⟩) hX hP (q0 := 2) rfl rfl rfl hl.1 rfl (Nat.le_of_ble_eq_true rfl) dX0_trace_15 ⟨Nat.zero_le _, Nat.zero_le _⟩ ?_
    refine lv_istore (lv' := [(5, .int (pI ((lpB S (oZ Z) (Z 1) t0 (S 0 1)).1))), (0, .ref (q 2)), (1, .ref (q 1)), (2, .int (nI a0)), (3, .int (nI t0)), (4, .ref (q 20))]) hx hb dX0_trace_18 hl (by decide) rfl (fun ls hl => ?_)
    refine lv_iload hx hb dX0_trace_20 (lv_at hl 0 rfl) ?_
    refine lv_iconst (v := pI 0) hx hb dX0_trace_22 (by decide) ?_
    refine np_icmp_ne (tgt := 28) hx hb (by omega) (by omega) dX0_trace_23 (by decide) (fun h_23 => ?_) (fun h_23 => ?_)
    · skip
      have hbl := hlm.2 (by omega)
      refine lv_aload hx hb dX0_trace_28 (lv_at hl 5 rfl) ?_
      refine lv_iconst (v := nI 0) hx hb dX0_trace_30 (by decide) ?_
      refine lv_iload_n hx hb dX0_trace_31 rfl (lv_at hl 4 rfl) ?_
      refine na_iast hx hb hX.1 hP hD hS 20 0 rfl rfl (by omega) (by decide) (upd_enc nI _ _ _) dX0_trace_32 (fun H locs hP hD hS => ?_)
      have hP : va_P D vwCl (wC q k r (up2 S 14 0 t0) Z) H := sP_C20 hP
      have hD : va_D A (wC q k r (up2 S 14 0 t0) Z) := sD_C20 hD
      refine lv_iconst (v := nI 1) hx hb dX0_trace_33 (by decide) ?_
      refine lv_istore (lv' := [(6, .int (nI 1)), (5, .int (pI ((lpB S (oZ Z) (Z 1) t0 (S 0 1)).1))), (0, .ref (q 2)), (1, .ref (q 1)), (2, .int (nI a0)), (3, .int (nI t0)), (4, .ref (q 20))]) hx hb dX0_trace_34 hl (by decide) rfl (fun ls hl => ?_)
      have L36 : ∀ (n36 : Nat) (bb : Nat) (n1 : Nat) (A1 : Nat → Nat) (X1 : Nat → Nat → Nat), (40 < n1 + n36) → (hX1 : X1 = upR S 14 A1) → (hA1 : ∀ i, A1 i < 20) → (hbb : bb ≤ S 0 1) → (hn40 : n1 ≤ 40) → (hI : TrI S (oZ Z) (Z 1) t0 (lpB S (oZ Z) (Z 1) t0 (S 0 1)).2 (wayE S (oZ Z) (Z 1) a0 t0) bb n1 A1) → ∀ (H : Heap) (locs : List Loc), va_P D vwCl (wC q k r X1 Z) H → va_D A (wC q k r X1 Z) → va_S A s.heap H locs → ∀ (ls : Array Slot), lv_has ls 8 [(6, .int (nI n1)), (5, .int (pI bb)), (0, .ref (q 2)), (1, .ref (q 1)), (2, .int (nI a0)), (3, .int (nI t0)), (4, .ref (q 20))] → W p l e (headSpec wsX0_trace ({ frames := 3, cells := 0, slots := 0, locals := 69 } : Room)).room s m [.ref (q 2), .ref (q 1), .int (nI a0), .int (nI t0), .ref (q 20)].toArray below meth c H locs 0 0 (MQ below (va_Qi (fun (r : Int32) (u : (Nat → Nat → Nat) × (Nat → Nat → Nat)) => r = nI (wayE S (oZ Z) (Z 1) a0 t0).2 ∧ u.1 = upR S 14 (wayE S (oZ Z) (Z 1) a0 t0).1 ∧ u.2 = Z) (fun u t => wE D (A) (wC q k r u.1 u.2) t) (A)) [.ref (q 2), .ref (q 1), .int (nI a0), .int (nI t0), .ref (q 20)].toArray s 0 0 A) (F0 m 36 ls []) := by
        intro n36
        induction n36 with
        | zero =>
          intro bb n1 A1 X1 hfuel36 hX1 hA1 hbb hn40 hI H locs hP hD hS ls hl
          exact absurd hfuel36 (by omega)
        | succ n36 ih36 =>
          intro bb n1 A1 X1 hfuel36 hX1 hA1 hbb hn40 hI H locs hP hD hS ls hl
          refine lv_iload hx hb dX0_trace_36 (lv_at hl 1 rfl) ?_
          refine lv_iconst (v := pI 0) hx hb dX0_trace_38 (by decide) ?_
          refine np_icmp_eq (tgt := 83) hx hb (by omega) (by omega) dX0_trace_39 (by decide) (fun h_39 => ?_) (fun h_39 => ?_)
          · skip
            refine lv_iload hx hb dX0_trace_83 (lv_at hl 0 rfl) ?_
            exact W.iret (v := nI n1) hx hb hr (fun t ht hW => ⟨⟨_, (X1, Z), rfl, (have hq : (A1, n1) = (wayE S (oZ Z) (Z 1) a0 t0) := hI.2 (by first | exact h_39 | (exfalso; obtain ⟨-, hC, -⟩ := hI.1 (by omega); have := Ck_lt hGw hT0 hC; omega)); ⟨by rw [← hq], by rw [← hq]; exact hX1, rfl⟩), by rw [ht]; exact hP, hD⟩, hS.F ht⟩) hS.2.2 dX0_trace_85
          · skip
            refine lv_iload hx hb dX0_trace_42 (lv_at hl 0 rfl) ?_
            refine lv_aload hx hb dX0_trace_44 (lv_at hl 6 rfl) ?_
            refine va_alen hx hb hX.1 hP 20 0 rfl rfl (v := nI 40) rfl dX0_trace_46 ?_
            refine na_icmp_ge (tgt := 83) hx hb (by omega) (by omega) dX0_trace_47 (by decide) (fun h_47 => ?_) (fun h_47 => ?_)
            · skip
              refine lv_iload hx hb dX0_trace_83 (lv_at hl 0 rfl) ?_
              exact W.iret (v := nI n1) hx hb hr (fun t ht hW => ⟨⟨_, (X1, Z), rfl, (have hq : (A1, n1) = (wayE S (oZ Z) (Z 1) a0 t0) := hI.2 (by first | exact h_39 | (exfalso; obtain ⟨-, hC, -⟩ := hI.1 (by omega); have := Ck_lt hGw hT0 hC; omega)); ⟨by rw [← hq], by rw [← hq]; exact hX1, rfl⟩), by rw [ht]; exact hP, hD⟩, hS.F ht⟩) hS.2.2 dX0_trace_85
            · skip
              obtain ⟨hb1, hC, hE⟩ := hI.1 (by omega)
              have hn := Ck_lt hGw hT0 hC
              refine lv_aload_n hx hb dX0_trace_50 rfl (lv_at hl 3 rfl) ?_
              refine va_getN (D := D) (v := .ref (q 9)) hx hb hts hin_X1 hown hX.1 hP 1 rfl rfl 8 (by decide) hf_57 (fun _ h9 => h9) rfl dX0_trace_51 ?_
              refine lv_iload hx hb dX0_trace_54 (lv_at hl 1 rfl) ?_
              refine na_as (y := nI (bb - 1)) (pI_pos (by omega)) ?_
              refine na_iald hx hb hX.1 hP 9 0 rfl rfl (by omega) (by decide) dX0_trace_56 ?_
              refine na_as (y := nI (S 7 (bb - 1))) (by rw [hX1]; rfl) ?_
              refine lv_istore (lv' := [(7, .int (nI (S 7 (bb - 1)))), (6, .int (nI n1)), (5, .int (pI bb)), (0, .ref (q 2)), (1, .ref (q 1)), (2, .int (nI a0)), (3, .int (nI t0)), (4, .ref (q 20))]) hx hb dX0_trace_57 hl (by decide) rfl (fun ls hl => ?_)
              refine lv_aload hx hb dX0_trace_59 (lv_at hl 7 rfl) ?_
              refine lv_iload hx hb dX0_trace_61 (lv_at hl 1 rfl) ?_
              refine lv_iload hx hb dX0_trace_63 (lv_at hl 0 rfl) ?_
              refine lv_iconst (v := nI 2) hx hb dX0_trace_65 (by decide) ?_
              refine na_idiv2 hx hb (by have := hC.1; omega) dX0_trace_66 ?_
              refine na_iast hx hb hX.1 hP hD hS 20 0 rfl rfl (by omega) (by decide) (upd_enc nI _ _ _) dX0_trace_67 (fun H locs hP hD hS => ?_)
              have hP : va_P D vwCl (wC q k r (up2 X1 14 n1 ((S 7 (bb - 1)) / 2)) Z) H := sP_C20 hP
              have hD : va_D A (wC q k r (up2 X1 14 n1 ((S 7 (bb - 1)) / 2)) Z) := sD_C20 hD
              obtain ⟨X2, hX2⟩ : ∃ X, X = up2 X1 14 n1 ((S 7 (bb - 1)) / 2) := ⟨_, rfl⟩
              rw [← hX2] at hP hD
              have hX2 : X2 = upR S 14 (up1 A1 n1 (S 7 (bb - 1) / 2)) := by rw [hX2]; exact up14 hX1
              refine lv_iinc (v := nI (n1 + 1)) (lv' := [(6, .int (nI (n1 + 1))), (7, .int (nI (S 7 (bb - 1)))), (5, .int (pI bb)), (0, .ref (q 2)), (1, .ref (q 1)), (2, .int (nI a0)), (3, .int (nI t0)), (4, .ref (q 20))]) hx hb dX0_trace_68 hl (k := 1) rfl (nI_add _ 1) (by decide) rfl (fun ls hl => ?_)
              refine lv_aload_n hx hb dX0_trace_71 rfl (lv_at hl 3 rfl) ?_
              refine lv_aload_n hx hb dX0_trace_72 rfl (lv_at hl 4 rfl) ?_
              refine lv_iload hx hb dX0_trace_73 (lv_at hl 1 rfl) ?_
              refine rd_V (As := [.ref (q 1), .int (nI (S 7 (bb - 1)))]) (rest := []) ⟨hx, hb, hml, hown, hts⟩ (k_X0_passageBefore l D q k r X2 Z (S 7 (bb - 1)) (Bd_R hX2 hB (up1_lt hA1 (by have := hC.1; omega))) hZ1 hZ0 (by have := hC.1; omega)) (cwV 2 hts gX0_trace_X0_passageBefore rfl rfl rfl (by decide +kernel) ⟨by decide, by decide⟩) hX hP (q0 := 2) rfl rfl rfl hl.1 rfl (Nat.le_of_ble_eq_true rfl) dX0_trace_75 ⟨Nat.zero_le _, Nat.zero_le _⟩ ?_
              refine na_as (y := pI (pBf S (oZ Z) (Z 1) (S 7 (bb - 1)))) (by rw [pBf_S (Alk_14 hX2)]) ?_
              refine lv_istore (lv' := [(5, .int (pI (pBf S (oZ Z) (Z 1) (S 7 (bb - 1))))), (6, .int (nI (n1 + 1))), (7, .int (nI (S 7 (bb - 1)))), (0, .ref (q 2)), (1, .ref (q 1)), (2, .int (nI a0)), (3, .int (nI t0)), (4, .ref (q 20))]) hx hb dX0_trace_78 hl (by decide) rfl (fun ls hl => ?_)
              refine lv_goto (tgt := 36) hx hb dX0_trace_80 (by decide) ?_
              exact ih36 (pBf S (oZ Z) (Z 1) (S 7 (bb - 1))) (n1 + 1) (up1 A1 n1 (S 7 (bb - 1) / 2)) X2 (by omega) hX2 (up1_lt hA1 (by have := hC.1; omega)) pBf_le (by omega) (TrI_next hGw hF h_2 hT0 hbl.2.2.1 hI (by omega)) _ _ hP hD hS ls (lv_sub hl [1, 0, 3, 4, 5, 6, 7] rfl)
      exact L36 40 ((lpB S (oZ Z) (Z 1) t0 (S 0 1)).1) 1 (up1 (S 14) 0 t0) ((up2 S 14 0 t0)) (by omega) rfl (up1_lt (fun i => (hB.2.2.2.2 i).2.2) (by omega)) hlo.1 (by omega) ⟨fun _ => ⟨hlo.1, Ck_first hGw hF (by omega), by rw [wayE, if_neg h_2, if_neg h_23]⟩, fun q => absurd q h_23⟩ _ _ hP hD hS ls hl
    · skip
      refine lv_iconst (v := nI 0) hx hb dX0_trace_26 (by decide) ?_
      exact W.iret (v := nI 0) hx hb hr (fun t ht hW => ⟨⟨_, (S, Z), rfl, ⟨by rw [wayE, if_neg h_2, if_pos h_23], by rw [wayE, if_neg h_2, if_pos h_23, upR_id], rfl⟩, by rw [ht]; exact hP, hD⟩, hS.F ht⟩) hS.2.2 dX0_trace_27
  · skip
    refine lv_aload hx hb dX0_trace_5 (lv_at hl 4 rfl) ?_
    refine lv_iconst (v := nI 0) hx hb dX0_trace_7 (by decide) ?_
    refine lv_iload_n hx hb dX0_trace_8 rfl (lv_at hl 3 rfl) ?_
    refine na_iast hx hb hX.1 hP hD hS 20 0 rfl rfl (by omega) (by decide) (upd_enc nI _ _ _) dX0_trace_9 (fun H locs hP hD hS => ?_)
    have hP : va_P D vwCl (wC q k r (up2 S 14 0 t0) Z) H := sP_C20 hP
    have hD : va_D A (wC q k r (up2 S 14 0 t0) Z) := sD_C20 hD
    refine lv_iconst (v := nI 1) hx hb dX0_trace_10 (by decide) ?_
    exact W.iret (v := nI 1) hx hb hr (fun t ht hW => ⟨⟨_, ((up2 S 14 0 t0), Z), rfl, ⟨by rw [wayE, if_pos h_2], by rw [wayE, if_pos h_2]; rfl, rfl⟩, by rw [ht]; exact hP, hD⟩, hS.F ht⟩) hS.2.2 dX0_trace_11
