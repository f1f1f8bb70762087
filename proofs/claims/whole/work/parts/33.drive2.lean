set_option maxHeartbeats 4000000 in
set_option maxRecDepth 100000 in
theorem k_J7_fill_53178 (l : Launch) (D : va_G) (q : Nat → Nat) (k : Nat → ClassId) (r : Nat → Nat) (S Z : Nat → Nat → Nat) (sz : Nat) (v0 : Nat) : Met l yJ7_fill_53178 wsJ7_fill_53178 ({ frames := 0, cells := 0, slots := 0, locals := 0 } : Room) (va_Pc [.ref (q 16), .int (nI v0)] (wB D k (wC q k r S Z) sz)) (va_Qv (fun (u : (Nat → Nat → Nat) × (Nat → Nat → Nat)) => u.1 = S ∧ u.2 = upR Z 1 (fun _ => v0)) (fun u t => wE D (va_A (wC q k r S Z) sz) (wC q k r u.1 u.2) t) (va_A (wC q k r S Z) sz)) 0 0 (va_A (wC q k r S Z) sz) := by
  refine Met.ofW (cc := cJ7_fill_53178) (maxL := 4) (ret := none) (by decide) rfl ?_
  intro p e s m args below meth c s₁ B hml hv
  obtain ⟨rfl, hsz, hP, hX, hD0⟩ := hv
  have hx := B.exec
  have hb := B.bytes
  have hr := B.returns
  have hts := atoms_spec (ws := wsJ7_fill_53178) B.pre
  have hown : s.vm.findClass RJ7 = some m.cls := findClass_of_methodNamed B.named
  have hlocks := B.notSynchronized
  subst hsz
  have hD := hD0.self (sz := s.heap.size)
  generalize hAe : va_A (wC q k r S Z) s.heap.size = A at hD ⊢
  have hA : ∀ q : Nat, s.heap.size ≤ q → A q := fun q h => by rw [← hAe]; exact Or.inr h
  have hS : va_S A s.heap s.heap [] := va_S.rf
  have hP : va_P D vwCl (wC q k r S Z) s.heap := hP
  have hl := lv_entry ([.ref (q 16), .int (nI v0)]) (n := 4) (Nat.le_of_ble_eq_true rfl)
  rw [lg_entry_eq]
  generalize (lg_sl ([.ref (q 16), .int (nI v0)]) ++ List.replicate (4 - (lg_sl ([.ref (q 16), .int (nI v0)])).length) Slot.unset).toArray = ls at hl ⊢
  have hl : lv_has ls 4 [(0, .ref (q 16)), (1, .int (nI v0))] := hl
  refine lv_iconst (v := nI 0) hx hb dJ7_fill_53178_0 (by decide) ?_
  refine lv_istore_n (lv' := [(2, .int (nI 0)), (0, .ref (q 16)), (1, .int (nI v0))]) hx hb dJ7_fill_53178_1 rfl hl (by decide) rfl (fun ls hl => ?_)
  refine lv_aload_n hx hb dJ7_fill_53178_2 rfl (lv_at hl 1 rfl) ?_
  refine va_alen hx hb hX.1 hP 16 0 rfl rfl (v := nI 40) rfl dJ7_fill_53178_3 ?_
  refine lv_istore_n (lv' := [(3, .int (nI 40)), (2, .int (nI 0)), (0, .ref (q 16)), (1, .int (nI v0))]) hx hb dJ7_fill_53178_4 rfl hl (by decide) rfl (fun ls hl => ?_)
  have L5 : ∀ (n5 : Nat) (i : Nat) (Y : Nat → Nat → Nat), (40 < i + n5) → (h1 : i ≤ 40) → (hY : Y = upR Z 1 (fun j => if j < i then v0 else Z 1 j)) → ∀ (H : Heap) (locs : List Loc), va_P D vwCl (wC q k r S Y) H → va_D A (wC q k r S Y) → va_S A s.heap H locs → ∀ (ls : Array Slot), lv_has ls 4 [(3, .int (nI 40)), (2, .int (nI i)), (0, .ref (q 16)), (1, .int (nI v0))] → W p l e (headSpec wsJ7_fill_53178 ({ frames := 0, cells := 0, slots := 0, locals := 0 } : Room)).room s m [.ref (q 16), .int (nI v0)].toArray below meth c H locs 0 0 (MQ below (va_Qv (fun (u : (Nat → Nat → Nat) × (Nat → Nat → Nat)) => u.1 = S ∧ u.2 = upR Z 1 (fun _ => v0)) (fun u t => wE D (A) (wC q k r u.1 u.2) t) (A)) [.ref (q 16), .int (nI v0)].toArray s 0 0 A) (F0 m 5 ls []) := by
    intro n5
    induction n5 with
    | zero =>
      intro i Y hfuel5 h1 hY H locs hP hD hS ls hl
      exact absurd hfuel5 (by omega)
    | succ n5 ih5 =>
      intro i Y hfuel5 h1 hY H locs hP hD hS ls hl
      refine lv_iload_n hx hb dJ7_fill_53178_5 rfl (lv_at hl 1 rfl) ?_
      refine lv_iload_n hx hb dJ7_fill_53178_6 rfl (lv_at hl 0 rfl) ?_
      refine na_icmp_ge (tgt := 20) hx hb (by omega) (by omega) dJ7_fill_53178_7 (by decide) (fun h_7 => ?_) (fun h_7 => ?_)
      · skip
        rw [hY] at hP hD
        have hP : va_P D vwCl (wC q k r S (upR Z 1 (fun _ => v0))) H := va_P_int (i := 16) (g := fun _ => nI v0) hP rfl (fun j hj => congrArg nI (if_pos (show j < i by omega)))
        have hD : va_D A (wC q k r S (upR Z 1 (fun _ => v0))) := va_D_set (i := 16) (e' := .inl (k 0, 40, .inl (fun _ => nI v0))) hD rfl
        exact W.vret hx hb hr (fun t ht hW => ⟨⟨(S, upR Z 1 (fun _ => v0)), rfl, ⟨rfl, rfl⟩, by rw [ht]; exact hP, hD⟩, hS.F ht⟩) hS.2.2 dJ7_fill_53178_20
      · skip
        refine lv_aload_n hx hb dJ7_fill_53178_10 rfl (lv_at hl 2 rfl) ?_
        refine lv_iload_n hx hb dJ7_fill_53178_11 rfl (lv_at hl 1 rfl) ?_
        refine lv_iload_n hx hb dJ7_fill_53178_12 rfl (lv_at hl 3 rfl) ?_
        refine na_iast hx hb hX.1 hP hD hS 16 0 rfl rfl (by omega) (by decide) (upd_enc nI _ _ _) dJ7_fill_53178_13 (fun H locs hP hD hS => ?_)
        have hP : va_P D vwCl (wC q k r S (up2 Y 1 i v0)) H := sP_C16 hP
        have hD : va_D A (wC q k r S (up2 Y 1 i v0)) := sD_C16 hD
        refine lv_iinc (v := nI (i + 1)) (lv' := [(2, .int (nI (i + 1))), (3, .int (nI 40)), (0, .ref (q 16)), (1, .int (nI v0))]) hx hb dJ7_fill_53178_14 hl (k := 1) rfl (nI_add _ 1) (by decide) rfl (fun ls hl => ?_)
        refine lv_goto (tgt := 5) hx hb dJ7_fill_53178_17 (by decide) ?_
        exact ih5 (i + 1) ((up2 Y 1 i v0)) (by omega) (by omega) (by rw [hY]; exact fillA_s Z 1 i v0) _ _ hP hD hS ls (lv_sub hl [1, 0, 2, 3] rfl)
  exact L5 41 0 Z (by omega) (by omega) (fillA_0 Z 1 v0) _ _ hP hD hS ls hl

set_option maxHeartbeats 4000000 in
set_option maxRecDepth 100000 in
theorem k_X0_begin (l : Launch) (D : va_G) (q : Nat → Nat) (k : Nat → ClassId) (r : Nat → Nat) (S Z : Nat → Nat → Nat) (sz : Nat) (w0 : Nat) (h0 : Nat) (hB : Bd S) (hw : w0 ≤ 500) (hh : h0 < 24) : Met l yX0_begin wsX0_begin ({ frames := 1, cells := 0, slots := 0, locals := 24 } : Room) (va_Pc [.ref (q 2), .ref (q 1), .int (nI w0), .int (nI h0)] (wB D k (wC q k r S Z) sz)) (va_Qv (fun (u : (Nat → Nat → Nat) × (Nat → Nat → Nat)) => u.1 = S ∧ u.2 = upR Z 0 (fun j => if j < S 0 1 then bN (opn S w0 h0 j) else Z 0 j)) (fun u t => wE D (va_A (wC q k r S Z) sz) (wC q k r u.1 u.2) t) (va_A (wC q k r S Z) sz)) 0 0 (va_A (wC q k r S Z) sz) := by
  refine Met.ofW (cc := cX0_begin) (maxL := 5) (ret := none) (by decide) rfl ?_
  intro p e s m args below meth c s₁ B hml hv
  obtain ⟨rfl, hsz, hP, hX, hD0⟩ := hv
  have hx := B.exec
  have hb := B.bytes
  have hr := B.returns
  have hts := atoms_spec (ws := wsX0_begin) B.pre
  have hown : s.vm.findClass RX0 = some m.cls := findClass_of_methodNamed B.named
  have hlocks := B.notSynchronized
  subst hsz
  have hD := hD0.self (sz := s.heap.size)
  generalize hAe : va_A (wC q k r S Z) s.heap.size = A at hD ⊢
  have hA : ∀ q : Nat, s.heap.size ≤ q → A q := fun q h => by rw [← hAe]; exact Or.inr h
  have hS : va_S A s.heap s.heap [] := va_S.rf
  have hP : va_P D vwCl (wC q k r S Z) s.heap := hP
  have hf_9 := hts (.fieldLink RX0 9 "FloorGraph$Drive" "open" "[Z") (by decide +kernel)
  have hf_22 : (Cond.fieldLinkNest "FloorGraph$Drive" 22 "FloorGraph$Floor" "passages" "I" "FloorGraph").before _ s = true := va_Nw.use (A := [.ref (q 2), .ref (q 1), .int (nI w0), .int (nI h0)].toArray) rfl (hX.2.1 ("FloorGraph$Drive", 22, "FloorGraph$Floor", "passages", "I", "FloorGraph") (by decide +kernel))
  have hf_28 : (Cond.fieldLinkNest "FloorGraph$Drive" 28 "FloorGraph$Floor" "barred" "[Z" "FloorGraph").before _ s = true := va_Nw.use (A := [.ref (q 2), .ref (q 1), .int (nI w0), .int (nI h0)].toArray) rfl (hX.2.1 ("FloorGraph$Drive", 28, "FloorGraph$Floor", "barred", "[Z", "FloorGraph") (by decide +kernel))
  have hf_31 : (Cond.fieldLinkNest "FloorGraph$Drive" 31 "FloorGraph$Floor" "goals" "[I" "FloorGraph").before _ s = true := va_Nw.use (A := [.ref (q 2), .ref (q 1), .int (nI w0), .int (nI h0)].toArray) rfl (hX.2.1 ("FloorGraph$Drive", 31, "FloorGraph$Floor", "goals", "[I", "FloorGraph") (by decide +kernel))
  have hin_X0 : ∀ w ∈ u_ws RX0 TX0 3, w ∈ wsX0_begin := by decide +kernel
  have hin_X1 : ∀ w ∈ u_ws RX1 TX1 14, w ∈ wsX0_begin := by decide +kernel
  have f0 := hB.1
  have hl := lv_entry ([.ref (q 2), .ref (q 1), .int (nI w0), .int (nI h0)]) (n := 5) (Nat.le_of_ble_eq_true rfl)
  rw [lg_entry_eq]
  generalize (lg_sl ([.ref (q 2), .ref (q 1), .int (nI w0), .int (nI h0)]) ++ List.replicate (5 - (lg_sl ([.ref (q 2), .ref (q 1), .int (nI w0), .int (nI h0)])).length) Slot.unset).toArray = ls at hl ⊢
  have hl : lv_has ls 5 [(0, .ref (q 2)), (1, .ref (q 1)), (2, .int (nI w0)), (3, .int (nI h0))] := hl
  refine lv_iconst (v := nI 0) hx hb dX0_begin_0 (by decide) ?_
  refine lv_istore (lv' := [(4, .int (nI 0)), (0, .ref (q 2)), (1, .ref (q 1)), (2, .int (nI w0)), (3, .int (nI h0))]) hx hb dX0_begin_1 hl (by decide) rfl (fun ls hl => ?_)
  have L3 : ∀ (n3 : Nat) (i : Nat) (Y : Nat → Nat → Nat), (S 0 1 < i + n3) → (h1 : i ≤ S 0 1) → (hY : Y = upR Z 0 (fun j => if j < i then bN (opn S w0 h0 j) else Z 0 j)) → ∀ (H : Heap) (locs : List Loc), va_P D vwCl (wC q k r S Y) H → va_D A (wC q k r S Y) → va_S A s.heap H locs → ∀ (ls : Array Slot), lv_has ls 5 [(4, .int (nI i)), (0, .ref (q 2)), (1, .ref (q 1)), (2, .int (nI w0)), (3, .int (nI h0))] → W p l e (headSpec wsX0_begin ({ frames := 1, cells := 0, slots := 0, locals := 24 } : Room)).room s m [.ref (q 2), .ref (q 1), .int (nI w0), .int (nI h0)].toArray below meth c H locs 0 0 (MQ below (va_Qv (fun (u : (Nat → Nat → Nat) × (Nat → Nat → Nat)) => u.1 = S ∧ u.2 = upR Z 0 (fun j => if j < S 0 1 then bN (opn S w0 h0 j) else Z 0 j)) (fun u t => wE D (A) (wC q k r u.1 u.2) t) (A)) [.ref (q 2), .ref (q 1), .int (nI w0), .int (nI h0)].toArray s 0 0 A) (F0 m 3 ls []) := by
    intro n3
    induction n3 with
    | zero =>
      intro i Y hfuel3 h1 hY H locs hP hD hS ls hl
      exact absurd hfuel3 (by omega)
    | succ n3 ih3 =>
      intro i Y hfuel3 h1 hY H locs hP hD hS ls hl
      refine lv_iload hx hb dX0_begin_3 (lv_at hl 0 rfl) ?_
      refine lv_aload_n hx hb dX0_begin_5 rfl (lv_at hl 2 rfl) ?_
      refine va_getN (D := D) (v := .int (nI (S 0 1))) hx hb hts hin_X1 hown hX.1 hP 1 rfl rfl 7 (by decide) hf_22 (fun _ h9 => h9) rfl dX0_begin_6 ?_
      refine na_icmp_ge (tgt := 56) hx hb (by omega) (by omega) dX0_begin_9 (by decide) (fun h_9 => ?_) (fun h_9 => ?_)
      · skip
        exact W.vret hx hb hr (fun t ht hW => ⟨⟨(S, Y), rfl, ⟨rfl, by rw [hY, show i = S 0 1 by omega]⟩, by rw [ht]; exact hP, hD⟩, hS.F ht⟩) hS.2.2 dX0_begin_56
      · skip
        have f8 := hB.2.2.2.1 i h_9
        have f10 := hB.2.2.1 i
        refine lv_aload_n hx hb dX0_begin_12 rfl (lv_at hl 1 rfl) ?_
        refine va_get (D := D) (v := .ref (q 15)) hx hb hts hin_X0 hown hX.1 hP 2 rfl rfl 0 (by decide) hf_9 (fun _ h9 => h9) rfl dX0_begin_13 ?_
        refine lv_iload hx hb dX0_begin_16 (lv_at hl 0 rfl) ?_
        refine lv_aload_n hx hb dX0_begin_18 rfl (lv_at hl 2 rfl) ?_
        refine va_getN (D := D) (v := .ref (q 12)) hx hb hts hin_X1 hown hX.1 hP 1 rfl rfl 11 (by decide) hf_28 (fun _ h9 => h9) rfl dX0_begin_19 ?_
        refine lv_iload hx hb dX0_begin_22 (lv_at hl 0 rfl) ?_
        refine na_zald hx hb hX.1 hP 12 1 rfl rfl (by omega) (by decide) dX0_begin_24 ?_
        refine na_if_ne (tgt := 48) hx hb (by omega) dX0_begin_25 (by decide) (fun h_25 => ?_) (fun h_25 => ?_)
        · skip
          refine lv_iconst (v := nI 0) hx hb dX0_begin_48 (by decide) ?_
          refine na_zast hx hb hX.1 hP hD hS 15 1 rfl rfl (by omega) (by omega) (by decide) (upd_enc nI _ _ _) dX0_begin_49 (fun H locs hP hD hS => ?_)
          have hP : va_P D vwCl (wC q k r S (up2 Y 0 i 0)) H := sP_C15 hP
          have hD : va_D A (wC q k r S (up2 Y 0 i 0)) := sD_C15 hD
          refine lv_iinc (v := nI (i + 1)) (lv' := [(4, .int (nI (i + 1))), (0, .ref (q 2)), (1, .ref (q 1)), (2, .int (nI w0)), (3, .int (nI h0))]) hx hb dX0_begin_50 hl (k := 0) rfl (nI_add _ 1) (by decide) rfl (fun ls hl => ?_)
          refine lv_goto (tgt := 3) hx hb dX0_begin_53 (by decide) ?_
          exact ih3 (i + 1) ((up2 Y 0 i 0)) (by omega) (by omega) (by rw [hY]; exact fillG_s Z 0 i (fun j => bN (opn S w0 h0 j)) (by first | (rw [opn_def, bN_pos h_41, decide_eq_true h_25]; rfl) | (rw [opn_def, decide_eq_false (show ¬ S 10 i = 0 by omega)]; rfl) | (rw [opn_def, bN_zero h_41, Bool.and_false]; rfl))) _ _ hP hD hS ls hl
        · skip
          refine lv_aload_n hx hb dX0_begin_28 rfl (lv_at hl 2 rfl) ?_
          refine lv_aload_n hx hb dX0_begin_29 rfl (lv_at hl 2 rfl) ?_
          refine va_getN (D := D) (v := .ref (q 10)) hx hb hts hin_X1 hown hX.1 hP 1 rfl rfl 9 (by decide) hf_31 (fun _ h9 => h9) rfl dX0_begin_30 ?_
          refine lv_iload hx hb dX0_begin_33 (lv_at hl 0 rfl) ?_
          refine na_iald hx hb hX.1 hP 10 0 rfl rfl (by omega) (by decide) dX0_begin_35 ?_
          refine lv_iload_n hx hb dX0_begin_36 rfl (lv_at hl 3 rfl) ?_
          refine lv_iload_n hx hb dX0_begin_37 rfl (lv_at hl 4 rfl) ?_
          refine rd_N (As := [.int (nI (S 8 i)), .int (nI w0), .int (nI h0)]) (rest := [.int (nI i), .ref (q 15)]) ⟨hx, hb, hml, hown, hts⟩ (k_X1_mayEnter l D q k r S Y (S 8 i) w0 h0 hB (by omega) hw hh) ⟨va_cnB 3 hts gX0_begin_X1_mayEnter_n34 rfl rfl rfl (hX.2.2 ("FloorGraph$Drive", 34, yX1_mayEnter) (by decide +kernel)) (hts (.initialized RX1) (by decide +kernel)) (by decide +kernel) ⟨by decide, by decide⟩, hts (.instanceMethod yX1_mayEnter) (by decide +kernel), hts (.selects RX1 yX1_mayEnter yX1_mayEnter) (by decide +kernel)⟩ hX hP (q0 := 1) rfl rfl rfl hl.1 rfl (Nat.le_of_ble_eq_true rfl) dX0_begin_38 ⟨Nat.zero_le _, Nat.zero_le _⟩ ?_
          refine na_if_eq (tgt := 48) hx hb (bN_lt _) dX0_begin_41 (by decide) (fun h_41 => ?_) (fun h_41 => ?_)
          · skip
            refine lv_iconst (v := nI 0) hx hb dX0_begin_48 (by decide) ?_
            refine na_zast hx hb hX.1 hP hD hS 15 1 rfl rfl (by omega) (by omega) (by decide) (upd_enc nI _ _ _) dX0_begin_49 (fun H locs hP hD hS => ?_)
            have hP : va_P D vwCl (wC q k r S (up2 Y 0 i 0)) H := sP_C15 hP
            have hD : va_D A (wC q k r S (up2 Y 0 i 0)) := sD_C15 hD
            refine lv_iinc (v := nI (i + 1)) (lv' := [(4, .int (nI (i + 1))), (0, .ref (q 2)), (1, .ref (q 1)), (2, .int (nI w0)), (3, .int (nI h0))]) hx hb dX0_begin_50 hl (k := 0) rfl (nI_add _ 1) (by decide) rfl (fun ls hl => ?_)
            refine lv_goto (tgt := 3) hx hb dX0_begin_53 (by decide) ?_
            exact ih3 (i + 1) ((up2 Y 0 i 0)) (by omega) (by omega) (by rw [hY]; exact fillG_s Z 0 i (fun j => bN (opn S w0 h0 j)) (by first | (rw [opn_def, bN_pos h_41, decide_eq_true h_25]; rfl) | (rw [opn_def, decide_eq_false (show ¬ S 10 i = 0 by omega)]; rfl) | (rw [opn_def, bN_zero h_41, Bool.and_false]; rfl))) _ _ hP hD hS ls hl
          · skip
            refine lv_iconst (v := nI 1) hx hb dX0_begin_44 (by decide) ?_
            refine lv_goto (tgt := 49) hx hb dX0_begin_45 (by decide) ?_
            refine na_zast hx hb hX.1 hP hD hS 15 1 rfl rfl (by omega) (by omega) (by decide) (upd_enc nI _ _ _) dX0_begin_49 (fun H locs hP hD hS => ?_)
            have hP : va_P D vwCl (wC q k r S (up2 Y 0 i 1)) H := sP_C15 hP
            have hD : va_D A (wC q k r S (up2 Y 0 i 1)) := sD_C15 hD
            refine lv_iinc (v := nI (i + 1)) (lv' := [(4, .int (nI (i + 1))), (0, .ref (q 2)), (1, .ref (q 1)), (2, .int (nI w0)), (3, .int (nI h0))]) hx hb dX0_begin_50 hl (k := 0) rfl (nI_add _ 1) (by decide) rfl (fun ls hl => ?_)
            refine lv_goto (tgt := 3) hx hb dX0_begin_53 (by decide) ?_
            exact ih3 (i + 1) ((up2 Y 0 i 1)) (by omega) (by omega) (by rw [hY]; exact fillG_s Z 0 i (fun j => bN (opn S w0 h0 j)) (by first | (rw [opn_def, bN_pos h_41, decide_eq_true h_25]; rfl) | (rw [opn_def, decide_eq_false (show ¬ S 10 i = 0 by omega)]; rfl) | (rw [opn_def, bN_zero h_41, Bool.and_false]; rfl))) _ _ hP hD hS ls hl
  exact L3 (S 0 1 + 1) 0 Z (by omega) (by omega) (fillG_0 Z 0 (fun j => bN (opn S w0 h0 j))) _ _ hP hD hS ls hl

set_option maxHeartbeats 4000000 in
set_option maxRecDepth 100000 in
theorem k_X0_spreadOnce (l : Launch) (D : va_G) (q : Nat → Nat) (k : Nat → ClassId) (r : Nat → Nat) (S Z : Nat → Nat → Nat) (sz : Nat) (hB : Bd S) (hZ1 : ∀ e, Z 1 e ≤ 1000000) (hZ0 : ∀ p, Z 0 p ≤ 1) : Met l yX0_spreadOnce wsX0_spreadOnce ({ frames := 2, cells := 0, slots := 0, locals := 46 } : Room) (va_Pc [.ref (q 2), .ref (q 1)] (wB D k (wC q k r S Z) sz)) (va_Qi (fun (r : Int32) (u : (Nat → Nat → Nat) × (Nat → Nat → Nat)) => r = nI (bN (chg S (oZ Z) (Z 1) (S 0 1))) ∧ u.1 = S ∧ u.2 = upR Z 1 (rnd S (oZ Z) (Z 1) (S 0 1))) (fun u t => wE D (va_A (wC q k r S Z) sz) (wC q k r u.1 u.2) t) (va_A (wC q k r S Z) sz)) 0 0 (va_A (wC q k r S Z) sz) := by
  refine Met.ofW (cc := cX0_spreadOnce) (maxL := 6) (ret := (some .boolean)) (by decide) rfl ?_
  intro p e s m args below meth c s₁ B hml hv
  obtain ⟨rfl, hsz, hP, hX, hD0⟩ := hv
  have hx := B.exec
  have hb := B.bytes
  have hr := B.returns
  have hts := atoms_spec (ws := wsX0_spreadOnce) B.pre
  have hown : s.vm.findClass RX0 = some m.cls := findClass_of_methodNamed B.named
  have hlocks := B.notSynchronized
  subst hsz
  have hD := hD0.self (sz := s.heap.size)
  generalize hAe : va_A (wC q k r S Z) s.heap.size = A at hD ⊢
  have hA : ∀ q : Nat, s.heap.size ≤ q → A q := fun q h => by rw [← hAe]; exact Or.inr h
  have hS : va_S A s.heap s.heap [] := va_S.rf
  have hP : va_P D vwCl (wC q k r S Z) s.heap := hP
  have hf_15 := hts (.fieldLink RX0 15 "FloorGraph$Drive" "reached" "[I") (by decide +kernel)
  have hf_22 : (Cond.fieldLinkNest "FloorGraph$Drive" 22 "FloorGraph$Floor" "passages" "I" "FloorGraph").before _ s = true := va_Nw.use (A := [.ref (q 2), .ref (q 1)].toArray) rfl (hX.2.1 ("FloorGraph$Drive", 22, "FloorGraph$Floor", "passages", "I", "FloorGraph") (by decide +kernel))
  have hf_31 : (Cond.fieldLinkNest "FloorGraph$Drive" 31 "FloorGraph$Floor" "goals" "[I" "FloorGraph").before _ s = true := va_Nw.use (A := [.ref (q 2), .ref (q 1)].toArray) rfl (hX.2.1 ("FloorGraph$Drive", 31, "FloorGraph$Floor", "goals", "[I", "FloorGraph") (by decide +kernel))
  have hin_X0 : ∀ w ∈ u_ws RX0 TX0 3, w ∈ wsX0_spreadOnce := by decide +kernel
  have hin_X1 : ∀ w ∈ u_ws RX1 TX1 14, w ∈ wsX0_spreadOnce := by decide +kernel
  have f0 := hB.1
  have hl := lv_entry ([.ref (q 2), .ref (q 1)]) (n := 6) (Nat.le_of_ble_eq_true rfl)
  rw [lg_entry_eq]
  generalize (lg_sl ([.ref (q 2), .ref (q 1)]) ++ List.replicate (6 - (lg_sl ([.ref (q 2), .ref (q 1)])).length) Slot.unset).toArray = ls at hl ⊢
  have hl : lv_has ls 6 [(0, .ref (q 2)), (1, .ref (q 1))] := hl
  refine lv_iconst (v := nI 0) hx hb dX0_spreadOnce_0 (by decide) ?_
  refine lv_istore_n (lv' := [(2, .int (nI 0)), (0, .ref (q 2)), (1, .ref (q 1))]) hx hb dX0_spreadOnce_1 rfl hl (by decide) rfl (fun ls hl => ?_)
  refine lv_iconst (v := nI 0) hx hb dX0_spreadOnce_2 (by decide) ?_
  refine lv_istore_n (lv' := [(3, .int (nI 0)), (2, .int (nI 0)), (0, .ref (q 2)), (1, .ref (q 1))]) hx hb dX0_spreadOnce_3 rfl hl (by decide) rfl (fun ls hl => ?_)
  have L4 : ∀ (n4 : Nat) (i : Nat) (f : Nat) (Y : Nat → Nat → Nat), (S 0 1 < i + n4) → (h1 : i ≤ S 0 1) → (hf : f = bN (chg S (oZ Z) (Z 1) i)) → (hY : Y = upR Z 1 (rnd S (oZ Z) (Z 1) i)) → ∀ (H : Heap) (locs : List Loc), va_P D vwCl (wC q k r S Y) H → va_D A (wC q k r S Y) → va_S A s.heap H locs → ∀ (ls : Array Slot), lv_has ls 6 [(3, .int (nI i)), (2, .int (nI f)), (0, .ref (q 2)), (1, .ref (q 1))] → W p l e (headSpec wsX0_spreadOnce ({ frames := 2, cells := 0, slots := 0, locals := 46 } : Room)).room s m [.ref (q 2), .ref (q 1)].toArray below meth c H locs 0 0 (MQ below (va_Qi (fun (r : Int32) (u : (Nat → Nat → Nat) × (Nat → Nat → Nat)) => r = nI (bN (chg S (oZ Z) (Z 1) (S 0 1))) ∧ u.1 = S ∧ u.2 = upR Z 1 (rnd S (oZ Z) (Z 1) (S 0 1))) (fun u t => wE D (A) (wC q k r u.1 u.2) t) (A)) [.ref (q 2), .ref (q 1)].toArray s 0 0 A) (F0 m 4 ls []) := by
    intro n4
    induction n4 with
    | zero =>
      intro i f Y hfuel4 h1 hf hY H locs hP hD hS ls hl
      exact absurd hfuel4 (by omega)
    | succ n4 ih4 =>
      intro i f Y hfuel4 h1 hf hY H locs hP hD hS ls hl
      have hY1 : Y 1 = rnd S (oZ Z) (Z 1) i := by rw [hY, upR_same]
      have hY0 : oZ Y = oZ Z := by rw [hY]; rfl
      have hl1 : ∀ e, Y 1 e ≤ 1000000 := fun e => by rw [hY1]; exact Nat.le_trans (rnd_mono S (oZ Z) (Z 1) e (Nat.zero_le i)) (hZ1 e)
      have hl0 : ∀ p, Y 0 p ≤ 1 := fun p => by rw [hY]; exact hZ0 p
      refine lv_iload_n hx hb dX0_spreadOnce_4 rfl (lv_at hl 0 rfl) ?_
      refine lv_aload_n hx hb dX0_spreadOnce_5 rfl (lv_at hl 3 rfl) ?_
      refine va_getN (D := D) (v := .int (nI (S 0 1))) hx hb hts hin_X1 hown hX.1 hP 1 rfl rfl 7 (by decide) hf_22 (fun _ h9 => h9) rfl dX0_spreadOnce_6 ?_
      refine na_icmp_ge (tgt := 59) hx hb (by omega) (by omega) dX0_spreadOnce_9 (by decide) (fun h_9 => ?_) (fun h_9 => ?_)
      · skip
        refine lv_iload_n hx hb dX0_spreadOnce_59 rfl (lv_at hl 1 rfl) ?_
        exact W.zret (v := nI f) hx hb hr (nar_b _ (by rw [hf]; exact bN_le _)) (fun t ht hW => ⟨⟨_, (S, Y), rfl, ⟨by rw [hf, show i = S 0 1 by omega], rfl, by rw [hY, show i = S 0 1 by omega]⟩, by rw [ht]; exact hP, hD⟩, hS.F ht⟩) hS.2.2 dX0_spreadOnce_60
      · skip
        have f8 := hB.2.2.2.1 i h_9
        have ff0 : fl (S 8 i) < 2 * 20 := fl_lt (by omega)
        have fs := sBh_le (fun p => (hB.2.2.1 p).1) (fun i => (hB.2.1 i).2.1) hl1 (o := oZ Y) i
        have fe := hl1 (fl (S 8 i))
        refine lv_aload_n hx hb dX0_spreadOnce_12 rfl (lv_at hl 3 rfl) ?_
        refine va_getN (D := D) (v := .ref (q 10)) hx hb hts hin_X1 hown hX.1 hP 1 rfl rfl 9 (by decide) hf_31 (fun _ h9 => h9) rfl dX0_spreadOnce_13 ?_
        refine lv_iload_n hx hb dX0_spreadOnce_16 rfl (lv_at hl 0 rfl) ?_
        refine na_iald hx hb hX.1 hP 10 0 rfl rfl (by omega) (by decide) dX0_spreadOnce_17 ?_
        refine lv_iconst (v := nI 1) hx hb dX0_spreadOnce_18 (by decide) ?_
        refine na_ixor1 hx hb (by omega) dX0_spreadOnce_19 ?_
        refine lv_istore (lv' := [(4, .int (nI (fl (S 8 i)))), (3, .int (nI i)), (2, .int (nI f)), (0, .ref (q 2)), (1, .ref (q 1))]) hx hb dX0_spreadOnce_20 hl (by decide) rfl (fun ls hl => ?_)
        refine lv_aload_n hx hb dX0_spreadOnce_22 rfl (lv_at hl 3 rfl) ?_
        refine lv_aload_n hx hb dX0_spreadOnce_23 rfl (lv_at hl 4 rfl) ?_
        refine lv_iload_n hx hb dX0_spreadOnce_24 rfl (lv_at hl 1 rfl) ?_
        refine rd_V (As := [.ref (q 1), .int (nI i)]) (rest := []) ⟨hx, hb, hml, hown, hts⟩ (k_X0_secondBehind l D q k r S Y i hB hl1 hl0 h_9) (cwV 2 hts gX0_spreadOnce_X0_secondBehind rfl rfl rfl (by decide +kernel) ⟨by decide, by decide⟩) hX hP (q0 := 2) rfl rfl rfl hl.1 rfl (Nat.le_of_ble_eq_true rfl) dX0_spreadOnce_25 ⟨Nat.zero_le _, Nat.zero_le _⟩ ?_
        refine lv_istore (lv' := [(5, .int (nI (sBh S (oZ Y) (Y 1) i))), (4, .int (nI (fl (S 8 i)))), (3, .int (nI i)), (2, .int (nI f)), (0, .ref (q 2)), (1, .ref (q 1))]) hx hb dX0_spreadOnce_28 hl (by decide) rfl (fun ls hl => ?_)
        refine lv_iload hx hb dX0_spreadOnce_30 (lv_at hl 0 rfl) ?_
        refine lv_aload_n hx hb dX0_spreadOnce_32 rfl (lv_at hl 4 rfl) ?_
        refine va_get (D := D) (v := .ref (q 16)) hx hb hts hin_X0 hown hX.1 hP 2 rfl rfl 1 (by decide) hf_15 (fun _ h9 => h9) rfl dX0_spreadOnce_33 ?_
        refine lv_iload hx hb dX0_spreadOnce_36 (lv_at hl 1 rfl) ?_
        refine na_iald hx hb hX.1 hP 16 0 rfl rfl (by omega) (by decide) dX0_spreadOnce_38 ?_
        refine na_icmp_ge (tgt := 53) hx hb (by omega) (by omega) dX0_spreadOnce_39 (by decide) (fun h_39 => ?_) (fun h_39 => ?_)
        · skip
          refine lv_iinc (v := nI (i + 1)) (lv' := [(3, .int (nI (i + 1))), (5, .int (nI (sBh S (oZ Y) (Y 1) i))), (4, .int (nI (fl (S 8 i)))), (2, .int (nI f)), (0, .ref (q 2)), (1, .ref (q 1))]) hx hb dX0_spreadOnce_53 hl (k := 2) rfl (nI_add _ 1) (by decide) rfl (fun ls hl => ?_)
          refine lv_goto (tgt := 4) hx hb dX0_spreadOnce_56 (by decide) ?_
          rw [hY0, hY1] at h_39
          exact ih4 (i + 1) f Y (by omega) (by omega) (by first | (rw [chg_s, decide_eq_true h_39, Bool.or_true]; rfl) | (rw [chg_s, decide_eq_false (show ¬ sBh S (oZ Z) (rnd S (oZ Z) (Z 1) i) i < rnd S (oZ Z) (Z 1) i (fl (S 8 i)) by omega), Bool.or_false]; exact hf)) (by first | (rw [up2, hY0, hY1, hY, upR_upR]; exact congrArg (upR Z 1) (if_pos h_39).symm) | (rw [hY]; exact congrArg (upR Z 1) (if_neg (by omega)).symm)) _ _ hP hD hS ls (lv_sub hl [0, 3, 4, 5] rfl)
        · skip
          refine lv_aload_n hx hb dX0_spreadOnce_42 rfl (lv_at hl 4 rfl) ?_
          refine va_get (D := D) (v := .ref (q 16)) hx hb hts hin_X0 hown hX.1 hP 2 rfl rfl 1 (by decide) hf_15 (fun _ h9 => h9) rfl dX0_spreadOnce_43 ?_
          refine lv_iload hx hb dX0_spreadOnce_46 (lv_at hl 1 rfl) ?_
          refine lv_iload hx hb dX0_spreadOnce_48 (lv_at hl 0 rfl) ?_
          refine na_iast hx hb hX.1 hP hD hS 16 0 rfl rfl (by omega) (by decide) (upd_enc nI _ _ _) dX0_spreadOnce_50 (fun H locs hP hD hS => ?_)
          have hP : va_P D vwCl (wC q k r S (up2 Y 1 (fl (S 8 i)) (sBh S (oZ Y) (Y 1) i))) H := sP_C16 hP
          have hD : va_D A (wC q k r S (up2 Y 1 (fl (S 8 i)) (sBh S (oZ Y) (Y 1) i))) := sD_C16 hD
          refine lv_iconst (v := nI 1) hx hb dX0_spreadOnce_51 (by decide) ?_
          refine lv_istore_n (lv' := [(2, .int (nI 1)), (5, .int (nI (sBh S (oZ Y) (Y 1) i))), (4, .int (nI (fl (S 8 i)))), (3, .int (nI i)), (0, .ref (q 2)), (1, .ref (q 1))]) hx hb dX0_spreadOnce_52 rfl hl (by decide) rfl (fun ls hl => ?_)
          refine lv_iinc (v := nI (i + 1)) (lv' := [(3, .int (nI (i + 1))), (2, .int (nI 1)), (5, .int (nI (sBh S (oZ Y) (Y 1) i))), (4, .int (nI (fl (S 8 i)))), (0, .ref (q 2)), (1, .ref (q 1))]) hx hb dX0_spreadOnce_53 hl (k := 3) rfl (nI_add _ 1) (by decide) rfl (fun ls hl => ?_)
          refine lv_goto (tgt := 4) hx hb dX0_spreadOnce_56 (by decide) ?_
          rw [hY0, hY1] at h_39
          exact ih4 (i + 1) 1 ((up2 Y 1 (fl (S 8 i)) (sBh S (oZ Y) (Y 1) i))) (by omega) (by omega) (by first | (rw [chg_s, decide_eq_true h_39, Bool.or_true]; rfl) | (rw [chg_s, decide_eq_false (show ¬ sBh S (oZ Z) (rnd S (oZ Z) (Z 1) i) i < rnd S (oZ Z) (Z 1) i (fl (S 8 i)) by omega), Bool.or_false]; exact hf)) (by first | (rw [up2, hY0, hY1, hY, upR_upR]; exact congrArg (upR Z 1) (if_pos h_39).symm) | (rw [hY]; exact congrArg (upR Z 1) (if_neg (by omega)).symm)) _ _ hP hD hS ls (lv_sub hl [0, 1, 4, 5] rfl)
  exact L4 (S 0 1 + 1) 0 0 Z (by omega) (by omega) rfl (upR_id Z 1).symm _ _ hP hD hS ls hl

set_option maxHeartbeats 4000000 in
set_option maxRecDepth 100000 in
theorem k_X0_spread (l : Launch) (D : va_G) (q : Nat → Nat) (k : Nat → ClassId) (r : Nat → Nat) (S Z : Nat → Nat → Nat) (sz : Nat) (a0 : Nat) (hB : Bd S) (hZ0 : ∀ p, Z 0 p ≤ 1) (hG : Gr S (2 * S 0 0)) (ha : a0 < S 0 0) : Met l yX0_spread wsX0_spread ({ frames := 3, cells := 0, slots := 0, locals := 71 } : Room) (va_Pc [.ref (q 2), .ref (q 1), .int (nI a0)] (wB D k (wC q k r S Z) sz)) (va_Qv (fun (u : (Nat → Nat → Nat) × (Nat → Nat → Nat)) => u.1 = S ∧ u.2 = upR Z 1 (itr S (oZ Z) (rs S a0 (fun _ => 1000000)) 40)) (fun u t => wE D (va_A (wC q k r S Z) sz) (wC q k r u.1 u.2) t) (va_A (wC q k r S Z) sz)) 0 0 (va_A (wC q k r S Z) sz) := by
  refine Met.ofW (cc := cX0_spread) (maxL := 5) (ret := none) (by decide) rfl ?_
  intro p e s m args below meth c s₁ B hml hv
  obtain ⟨rfl, hsz, hP, hX, hD0⟩ := hv
  have hx := B.exec
  have hb := B.bytes
  have hr := B.returns
  have hts := atoms_spec (ws := wsX0_spread) B.pre
  have hown : s.vm.findClass RX0 = some m.cls := findClass_of_methodNamed B.named
  have hlocks := B.notSynchronized
  subst hsz
  have hD := hD0.self (sz := s.heap.size)
  generalize hAe : va_A (wC q k r S Z) s.heap.size = A at hD ⊢
  have hA : ∀ q : Nat, s.heap.size ≤ q → A q := fun q h => by rw [← hAe]; exact Or.inr h
  have hS : va_S A s.heap s.heap [] := va_S.rf
  have hP : va_P D vwCl (wC q k r S Z) s.heap := hP
  have hf_15 := hts (.fieldLink RX0 15 "FloorGraph$Drive" "reached" "[I") (by decide +kernel)
  have hin_X0 : ∀ w ∈ u_ws RX0 TX0 3, w ∈ wsX0_spread := by decide +kernel
  have f0 := hB.1
  have hOk := rs_Okr (o := oZ Z) (S := S) (a := a0) Rb_nv
  have hl := lv_entry ([.ref (q 2), .ref (q 1), .int (nI a0)]) (n := 5) (Nat.le_of_ble_eq_true rfl)
  rw [lg_entry_eq]
  generalize (lg_sl ([.ref (q 2), .ref (q 1), .int (nI a0)]) ++ List.replicate (5 - (lg_sl ([.ref (q 2), .ref (q 1), .int (nI a0)])).length) Slot.unset).toArray = ls at hl ⊢
  have hl : lv_has ls 5 [(0, .ref (q 2)), (1, .ref (q 1)), (2, .int (nI a0))] := hl
  refine lv_aload_n hx hb dX0_spread_0 rfl (lv_at hl 0 rfl) ?_
  refine va_get (D := D) (v := .ref (q 16)) hx hb hts hin_X0 hown hX.1 hP 2 rfl rfl 1 (by decide) hf_15 (fun _ h9 => h9) rfl dX0_spread_1 ?_
  refine lv_ldc (v := nI 1000000) hx hb hown (hts (.constant RX0 38 (1000000)) (by decide +kernel)) dX0_spread_4 ?_
  refine wr_Sv (As := [.ref (q 16), .int (nI 1000000)]) (rest := []) ⟨hx, hb, hml, hown, hts⟩ (k_J7_fill_53178 l D q k r S Z _ 1000000 ) (va_cwS 2 hts gX0_spread_J7_fill_53178 rfl rfl rfl (by decide +kernel) ⟨by decide, by decide⟩) hX hP hD hS hA rfl hl.1 rfl (Nat.le_of_ble_eq_true rfl) dX0_spread_6 ⟨by decide, by decide⟩ (fun u_1 H locs hw_1 hP hD hS => ?_)
  obtain ⟨S_1, Z_1⟩ := u_1
  obtain ⟨e1, e2⟩ := hw_1
  dsimp only at e1 e2 hP hD
  rw [e1, e2] at hP hD
  have hP : va_P D vwCl (wC q k r S (upR Z 1 (fun _ => 1000000))) H := hP
  have hD : va_D A (wC q k r S (upR Z 1 (fun _ => 1000000))) := hD
  refine lv_iconst (v := nI 2) hx hb dX0_spread_9 (by decide) ?_
  refine lv_iload_n hx hb dX0_spread_10 rfl (lv_at hl 2 rfl) ?_
  refine na_imul hx hb dX0_spread_11 ?_
  refine lv_istore_n (lv' := [(3, .int (nI (2 * a0))), (0, .ref (q 2)), (1, .ref (q 1)), (2, .int (nI a0))]) hx hb dX0_spread_12 rfl hl (by decide) rfl (fun ls hl => ?_)
  have L13 : ∀ (n13 : Nat) (i : Nat) (Y : Nat → Nat → Nat), (2 * a0 + 2 < i + n13) → (h1 : i ≤ 2 * a0 + 2) → (h2 : 2 * a0 ≤ i) → (hY : Y = upR Z 1 (rG S a0 i)) → ∀ (H : Heap) (locs : List Loc), va_P D vwCl (wC q k r S Y) H → va_D A (wC q k r S Y) → va_S A s.heap H locs → ∀ (ls : Array Slot), lv_has ls 5 [(3, .int (nI i)), (0, .ref (q 2)), (1, .ref (q 1)), (2, .int (nI a0))] → W p l e (headSpec wsX0_spread ({ frames := 3, cells := 0, slots := 0, locals := 71 } : Room)).room s m [.ref (q 2), .ref (q 1), .int (nI a0)].toArray below meth c H locs 0 0 (MQ below (va_Qv (fun (u : (Nat → Nat → Nat) × (Nat → Nat → Nat)) => u.1 = S ∧ u.2 = upR Z 1 (itr S (oZ Z) (rs S a0 (fun _ => 1000000)) 40)) (fun u t => wE D (A) (wC q k r u.1 u.2) t) (A)) [.ref (q 2), .ref (q 1), .int (nI a0)].toArray s 0 0 A) (F0 m 13 ls []) := by
    intro n13
    induction n13 with
    | zero =>
      intro i Y hfuel13 h1 h2 hY H locs hP hD hS ls hl
      exact absurd hfuel13 (by omega)
    | succ n13 ih13 =>
      intro i Y hfuel13 h1 h2 hY H locs hP hD hS ls hl
      refine lv_iload_n hx hb dX0_spread_13 rfl (lv_at hl 0 rfl) ?_
      refine lv_iconst (v := nI 2) hx hb dX0_spread_14 (by decide) ?_
      refine lv_iload_n hx hb dX0_spread_15 rfl (lv_at hl 3 rfl) ?_
      refine na_imul hx hb dX0_spread_16 ?_
      refine lv_iconst (v := nI 1) hx hb dX0_spread_17 (by decide) ?_
      refine na_iadd hx hb dX0_spread_18 ?_
      refine na_icmp_gt (tgt := 43) hx hb (by omega) (by omega) dX0_spread_19 (by decide) (fun h_19 => ?_) (fun h_19 => ?_)
      · skip
        refine lv_iconst (v := nI 1) hx hb dX0_spread_43 (by decide) ?_
        refine lv_istore_n (lv' := [(3, .int (nI 1)), (0, .ref (q 2)), (1, .ref (q 1)), (2, .int (nI a0))]) hx hb dX0_spread_44 rfl hl (by decide) rfl (fun ls hl => ?_)
        refine lv_iconst (v := nI 0) hx hb dX0_spread_45 (by decide) ?_
        refine lv_istore (lv' := [(4, .int (nI 0)), (3, .int (nI 1)), (0, .ref (q 2)), (1, .ref (q 1)), (2, .int (nI a0))]) hx hb dX0_spread_46 hl (by decide) rfl (fun ls hl => ?_)
        have L48 : ∀ (n48 : Nat) (tt : Nat) (f : Nat) (X : Nat → Nat → Nat), (40 < tt + n48) → (h3 : tt ≤ 40) → (h4 : f = 1 ∨ f = 0 ∧ chg S (oZ Z) (itr S (oZ Z) (rs S a0 (fun _ => 1000000)) tt) (S 0 1) = false) → (hX1 : X = upR Z 1 (itr S (oZ Z) (rs S a0 (fun _ => 1000000)) tt)) → ∀ (H : Heap) (locs : List Loc), va_P D vwCl (wC q k r S X) H → va_D A (wC q k r S X) → va_S A s.heap H locs → ∀ (ls : Array Slot), lv_has ls 5 [(4, .int (nI tt)), (3, .int (nI f)), (0, .ref (q 2)), (1, .ref (q 1)), (2, .int (nI a0))] → W p l e (headSpec wsX0_spread ({ frames := 3, cells := 0, slots := 0, locals := 71 } : Room)).room s m [.ref (q 2), .ref (q 1), .int (nI a0)].toArray below meth c H locs 0 0 (MQ below (va_Qv (fun (u : (Nat → Nat → Nat) × (Nat → Nat → Nat)) => u.1 = S ∧ u.2 = upR Z 1 (itr S (oZ Z) (rs S a0 (fun _ => 1000000)) 40)) (fun u t => wE D (A) (wC q k r u.1 u.2) t) (A)) [.ref (q 2), .ref (q 1), .int (nI a0)].toArray s 0 0 A) (F0 m 48 ls []) := by
          intro n48
          induction n48 with
          | zero =>
            intro tt f X hfuel48 h3 h4 hX1 H locs hP hD hS ls hl
            exact absurd hfuel48 (by omega)
          | succ n48 ih48 =>
            intro tt f X hfuel48 h3 h4 hX1 H locs hP hD hS ls hl
            have hx1 : X 1 = itr S (oZ Z) (rs S a0 (fun _ => 1000000)) tt := by rw [hX1, upR_same]
            have hx0 : oZ X = oZ Z := by rw [hX1]; rfl
            have hl1 : ∀ e, X 1 e ≤ 1000000 := fun e => by rw [hx1]; exact (Okr.itr hG hOk tt).2.le e
            have hl0 : ∀ p, X 0 p ≤ 1 := fun p => by rw [hX1]; exact hZ0 p
            refine lv_iload_n hx hb dX0_spread_48 rfl (lv_at hl 1 rfl) ?_
            refine na_if_eq (tgt := 71) hx hb (by omega) dX0_spread_49 (by decide) (fun h_49 => ?_) (fun h_49 => ?_)
            · skip
              exact W.vret hx hb hr (fun t ht hW => ⟨⟨(S, X), rfl, ⟨rfl, by rw [hX1]; exact congrArg (upR Z 1) (rs_fin hG Rb_nv ha tt (fun q => (h4.resolve_left (by omega)).2))⟩, by rw [ht]; exact hP, hD⟩, hS.F ht⟩) hS.2.2 dX0_spread_71
            · skip
              refine lv_iload hx hb dX0_spread_52 (lv_at hl 0 rfl) ?_
              refine lv_bipush (v := nI 40) hx hb dX0_spread_54 (by decide) ?_
              refine na_icmp_ge (tgt := 71) hx hb (by omega) (by omega) dX0_spread_56 (by decide) (fun h_56 => ?_) (fun h_56 => ?_)
              · skip
                exact W.vret hx hb hr (fun t ht hW => ⟨⟨(S, X), rfl, ⟨rfl, by rw [hX1]; exact congrArg (upR Z 1) (rs_fin hG Rb_nv ha tt (fun q => (h4.resolve_left (by omega)).2))⟩, by rw [ht]; exact hP, hD⟩, hS.F ht⟩) hS.2.2 dX0_spread_71
              · skip
                refine lv_aload_n hx hb dX0_spread_59 rfl (lv_at hl 2 rfl) ?_
                refine lv_aload_n hx hb dX0_spread_60 rfl (lv_at hl 3 rfl) ?_
                refine wr_Vi (As := [.ref (q 1)]) (rest := []) ⟨hx, hb, hml, hown, hts⟩ (k_X0_spreadOnce l D q k r S X _  hB hl1 hl0) (cwV 1 hts gX0_spread_X0_spreadOnce rfl rfl rfl (by decide +kernel) ⟨by decide, by decide⟩) hX hP hD hS hA (q0 := 2) rfl rfl rfl hl.1 rfl (Nat.le_of_ble_eq_true rfl) dX0_spread_61 ⟨Nat.le_of_ble_eq_true rfl, Nat.le_of_ble_eq_true rfl⟩ (fun r_2 u_2 H locs hw_2 hP hD hS => ?_)
                obtain ⟨S_2, Z_2⟩ := u_2
                obtain ⟨e1, e2, e3⟩ := hw_2
                dsimp only at e2 e3 hP hD
                rw [e2, e3] at hP hD
                subst e1
                have hP : va_P D vwCl (wC q k r S (upR X 1 (rnd S (oZ X) (X 1) (S 0 1)))) H := hP
                have hD : va_D A (wC q k r S (upR X 1 (rnd S (oZ X) (X 1) (S 0 1)))) := hD
                refine lv_istore_n (lv' := [(3, .int (nI (bN (chg S (oZ X) (X 1) (S 0 1))))), (4, .int (nI tt)), (0, .ref (q 2)), (1, .ref (q 1)), (2, .int (nI a0))]) hx hb dX0_spread_64 rfl hl (by decide) rfl (fun ls hl => ?_)
                refine lv_iinc (v := nI (tt + 1)) (lv' := [(4, .int (nI (tt + 1))), (3, .int (nI (bN (chg S (oZ X) (X 1) (S 0 1))))), (0, .ref (q 2)), (1, .ref (q 1)), (2, .int (nI a0))]) hx hb dX0_spread_65 hl (k := 1) rfl (nI_add _ 1) (by decide) rfl (fun ls hl => ?_)
                refine lv_goto (tgt := 48) hx hb dX0_spread_68 (by decide) ?_
                exact ih48 (tt + 1) ((bN (chg S (oZ X) (X 1) (S 0 1)))) ((upR X 1 (rnd S (oZ X) (X 1) (S 0 1)))) (by omega) (by omega) (by rw [hx0, hx1]; exact chg_e) (by rw [hx0, hx1, hX1, upR_upR]; rfl) _ _ hP hD hS ls hl
        exact L48 41 0 1 Y (by omega) (by omega) (Or.inl rfl) (by rw [hY, show i = 2 * a0 + 2 by omega]; exact congrArg (upR Z 1) (rG_e ha)) _ _ hP hD hS ls hl
      · skip
        refine lv_aload_n hx hb dX0_spread_22 rfl (lv_at hl 2 rfl) ?_
        refine lv_iload_n hx hb dX0_spread_23 rfl (lv_at hl 0 rfl) ?_
        refine rd_N (As := [.int (nI i)]) (rest := []) ⟨hx, hb, hml, hown, hts⟩ (k_X1_mayLeave l D q k r S Y i hB (by omega)) ⟨va_cnB 1 hts gX0_spread_X1_mayLeave_n45 rfl rfl rfl (hX.2.2 ("FloorGraph$Drive", 45, yX1_mayLeave) (by decide +kernel)) (hts (.initialized RX1) (by decide +kernel)) (by decide +kernel) ⟨by decide, by decide⟩, hts (.instanceMethod yX1_mayLeave) (by decide +kernel), hts (.selects RX1 yX1_mayLeave yX1_mayLeave) (by decide +kernel)⟩ hX hP (q0 := 1) rfl rfl rfl hl.1 rfl (Nat.le_of_ble_eq_true rfl) dX0_spread_24 ⟨Nat.zero_le _, Nat.zero_le _⟩ ?_
        refine na_if_eq (tgt := 37) hx hb (bN_lt _) dX0_spread_27 (by decide) (fun h_27 => ?_) (fun h_27 => ?_)
        · skip
          refine lv_iinc (v := nI (i + 1)) (lv' := [(3, .int (nI (i + 1))), (0, .ref (q 2)), (1, .ref (q 1)), (2, .int (nI a0))]) hx hb dX0_spread_37 hl (k := 0) rfl (nI_add _ 1) (by decide) rfl (fun ls hl => ?_)
          refine lv_goto (tgt := 13) hx hb dX0_spread_40 (by decide) ?_
          exact ih13 (i + 1) Y (by omega) (by omega) (by omega) (by rw [hY]; first | (rw [up2, upR_upR, upR_same]; exact congrArg (upR Z 1) (rG_y (by omega) (bN_pos h_27))) | exact congrArg (upR Z 1) (rG_n (bN_zero h_27))) _ _ hP hD hS ls hl
        · skip
          refine lv_aload_n hx hb dX0_spread_30 rfl (lv_at hl 1 rfl) ?_
          refine va_get (D := D) (v := .ref (q 16)) hx hb hts hin_X0 hown hX.1 hP 2 rfl rfl 1 (by decide) hf_15 (fun _ h9 => h9) rfl dX0_spread_31 ?_
          refine lv_iload_n hx hb dX0_spread_34 rfl (lv_at hl 0 rfl) ?_
          refine lv_iconst (v := nI 0) hx hb dX0_spread_35 (by decide) ?_
          refine na_iast hx hb hX.1 hP hD hS 16 0 rfl rfl (by omega) (by decide) (upd_enc nI _ _ _) dX0_spread_36 (fun H locs hP hD hS => ?_)
          have hP : va_P D vwCl (wC q k r S (up2 Y 1 i 0)) H := sP_C16 hP
          have hD : va_D A (wC q k r S (up2 Y 1 i 0)) := sD_C16 hD
          refine lv_iinc (v := nI (i + 1)) (lv' := [(3, .int (nI (i + 1))), (0, .ref (q 2)), (1, .ref (q 1)), (2, .int (nI a0))]) hx hb dX0_spread_37 hl (k := 0) rfl (nI_add _ 1) (by decide) rfl (fun ls hl => ?_)
          refine lv_goto (tgt := 13) hx hb dX0_spread_40 (by decide) ?_
          exact ih13 (i + 1) ((up2 Y 1 i 0)) (by omega) (by omega) (by omega) (by rw [hY]; first | (rw [up2, upR_upR, upR_same]; exact congrArg (upR Z 1) (rG_y (by omega) (bN_pos h_27))) | exact congrArg (upR Z 1) (rG_n (bN_zero h_27))) _ _ hP hD hS ls hl
  exact L13 3 (2 * a0) ((upR Z 1 (fun _ => 1000000))) (by omega) (by omega) (by omega) (congrArg (upR Z 1) (rG_0 S a0)) _ _ hP hD hS ls hl
