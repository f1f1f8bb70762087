set_option maxHeartbeats 4000000 in
set_option maxRecDepth 100000 in
theorem k_X0_waysBetween (l : Launch) (D : va_G) (q : Nat → Nat) (k : Nat → ClassId) (r : Nat → Nat) (S Z : Nat → Nat → Nat) (sz : Nat) (a0 : Nat) (t0 : Nat) (b0 : Nat) (hB : Bd S) (hZ0 : ∀ p, Z 0 p ≤ 1) (hZ2 : ∀ p, Z 2 p ≤ 1) (hL : LV S Z) (ha : a0 < S 0 0) (ht0 : t0 < 20) (hb0 : b0 ≤ 5) (h8 : ∀ p, p < S 0 1 → S 8 p / 2 < S 0 0) : Met l yX0_waysBetween wsX0_waysBetween ({ frames := 7, cells := 0, slots := 0, locals := 174 } : Room) (va_Pc [.ref (q 2), .ref (q 1), .int (nI a0), .int (nI t0), .int (nI b0)] (wB D k (wC q k r S Z) sz)) (va_Qi (fun (r : Int32) (u : (Nat → Nat → Nat) × (Nat → Nat → Nat)) => r = nI (cpl S (oZ Z) a0 t0 b0) ∧ u.1 = S ∧ u.2 = (upR Z 2 (fun j => if j < S 0 0 then met1 a0 j else Z 2 j))) (fun u t => wE D (va_A (wC q k r S Z) sz) (wC q k r u.1 u.2) t) (va_A (wC q k r S Z) sz)) 0 0 (va_A (wC q k r S Z) sz) := by
  refine Met.ofW (cc := cX0_waysBetween) (maxL := 7) (ret := (some .int)) (by decide) rfl ?_
  intro p e s m args below meth c s₁ B hml hv
  obtain ⟨rfl, hsz, hP, hX, hD0⟩ := hv
  have hx := B.exec
  have hb := B.bytes
  have hr := B.returns
  have hts := atoms_spec (ws := wsX0_waysBetween) B.pre
  have hown : s.vm.findClass RX0 = some m.cls := findClass_of_methodNamed B.named
  have hlocks := B.notSynchronized
  subst hsz
  have hD := hD0.self (sz := s.heap.size)
  generalize hAe : va_A (wC q k r S Z) s.heap.size = A at hD ⊢
  have hA : ∀ q : Nat, s.heap.size ≤ q → A q := fun q h => by rw [← hAe]; exact Or.inr h
  have hS : va_S A s.heap s.heap [] := va_S.rf
  have hP : va_P D vwCl (wC q k r S Z) s.heap := hP
  have hf_19 := hts (.fieldLink RX0 19 "FloorGraph$Drive" "met" "[Z") (by decide +kernel)
  have hf_75 : (Cond.fieldLinkNest "FloorGraph$Drive" 75 "FloorGraph$Floor" "pieces" "I" "FloorGraph").before _ s = true := va_Nw.use (A := [.ref (q 2), .ref (q 1), .int (nI a0), .int (nI t0), .int (nI b0)].toArray) rfl (hX.2.1 ("FloorGraph$Drive", 75, "FloorGraph$Floor", "pieces", "I", "FloorGraph") (by decide +kernel))
  have hin_X0 : ∀ w ∈ u_ws RX0 TX0 3, w ∈ wsX0_waysBetween := by decide +kernel
  have hin_X1 : ∀ w ∈ u_ws RX1 TX1 14, w ∈ wsX0_waysBetween := by decide +kernel
  have f0 := hB.1
  have hl := lv_entry ([.ref (q 2), .ref (q 1), .int (nI a0), .int (nI t0), .int (nI b0)]) (n := 7) (Nat.le_of_ble_eq_true rfl)
  rw [lg_entry_eq]
  generalize (lg_sl ([.ref (q 2), .ref (q 1), .int (nI a0), .int (nI t0), .int (nI b0)]) ++ List.replicate (7 - (lg_sl ([.ref (q 2), .ref (q 1), .int (nI a0), .int (nI t0), .int (nI b0)])).length) Slot.unset).toArray = ls at hl ⊢
  have hl : lv_has ls 7 [(0, .ref (q 2)), (1, .ref (q 1)), (2, .int (nI a0)), (3, .int (nI t0)), (4, .int (nI b0))] := hl
  refine lv_iconst (v := nI 0) hx hb dX0_waysBetween_0 (by decide) ?_
  refine lv_istore (lv' := [(5, .int (nI 0)), (0, .ref (q 2)), (1, .ref (q 1)), (2, .int (nI a0)), (3, .int (nI t0)), (4, .int (nI b0))]) hx hb dX0_waysBetween_1 hl (by decide) rfl (fun ls hl => ?_)
  have L3 : ∀ (n3 : Nat) (i : Nat) (Y : Nat → Nat → Nat), (S 0 0 < i + n3) → (h1 : i ≤ S 0 0) → (hY : Y = upR Z 2 (fun j => if j < i then met1 a0 j else Z 2 j)) → ∀ (H : Heap) (locs : List Loc), va_P D vwCl (wC q k r S Y) H → va_D A (wC q k r S Y) → va_S A s.heap H locs → ∀ (ls : Array Slot), lv_has ls 7 [(5, .int (nI i)), (0, .ref (q 2)), (1, .ref (q 1)), (2, .int (nI a0)), (3, .int (nI t0)), (4, .int (nI b0))] → W p l e (headSpec wsX0_waysBetween ({ frames := 7, cells := 0, slots := 0, locals := 174 } : Room)).room s m [.ref (q 2), .ref (q 1), .int (nI a0), .int (nI t0), .int (nI b0)].toArray below meth c H locs 0 0 (MQ below (va_Qi (fun (r : Int32) (u : (Nat → Nat → Nat) × (Nat → Nat → Nat)) => r = nI (cpl S (oZ Z) a0 t0 b0) ∧ u.1 = S ∧ u.2 = (upR Z 2 (fun j => if j < S 0 0 then met1 a0 j else Z 2 j))) (fun u t => wE D (A) (wC q k r u.1 u.2) t) (A)) [.ref (q 2), .ref (q 1), .int (nI a0), .int (nI t0), .int (nI b0)].toArray s 0 0 A) (F0 m 3 ls []) := by
    intro n3
    induction n3 with
    | zero =>
      intro i Y hfuel3 h1 hY H locs hP hD hS ls hl
      exact absurd hfuel3 (by omega)
    | succ n3 ih3 =>
      intro i Y hfuel3 h1 hY H locs hP hD hS ls hl
      refine lv_iload hx hb dX0_waysBetween_3 (lv_at hl 0 rfl) ?_
      refine lv_aload_n hx hb dX0_waysBetween_5 rfl (lv_at hl 2 rfl) ?_
      refine va_getN (D := D) (v := .int (nI (S 0 0))) hx hb hts hin_X1 hown hX.1 hP 1 rfl rfl 0 (by decide) hf_75 (fun _ h9 => h9) rfl dX0_waysBetween_6 ?_
      refine na_icmp_ge (tgt := 36) hx hb (by omega) (by omega) dX0_waysBetween_9 (by decide) (fun h_9 => ?_) (fun h_9 => ?_)
      · skip
        refine lv_iconst (v := nI 0) hx hb dX0_waysBetween_36 (by decide) ?_
        refine lv_istore (lv' := [(5, .int (nI 0)), (0, .ref (q 2)), (1, .ref (q 1)), (2, .int (nI a0)), (3, .int (nI t0)), (4, .int (nI b0))]) hx hb dX0_waysBetween_37 hl (by decide) rfl (fun ls hl => ?_)
        refine lv_iconst (v := nI 2) hx hb dX0_waysBetween_39 (by decide) ?_
        refine lv_iload_n hx hb dX0_waysBetween_40 rfl (lv_at hl 3 rfl) ?_
        refine na_imul hx hb dX0_waysBetween_41 ?_
        refine lv_istore (lv' := [(6, .int (nI (2 * a0))), (5, .int (nI 0)), (0, .ref (q 2)), (1, .ref (q 1)), (2, .int (nI a0)), (3, .int (nI t0)), (4, .int (nI b0))]) hx hb dX0_waysBetween_42 hl (by decide) rfl (fun ls hl => ?_)
        have L44 : ∀ (n44 : Nat) (i : Nat) (f : Nat) (X1 : Nat → Nat → Nat), (2 * a0 + 2 < i + n44) → (h2 : i ≤ 2 * a0 + 2) → (h3 : 2 * a0 ≤ i) → (hX1 : X1 = (upR Z 2 (fun j => if j < S 0 0 then met1 a0 j else Z 2 j))) → (hf : f = sm (fun e => if mvL S e = true then cx S (oZ Z) t0 b0 (met1 a0) e else 0) (2 * a0) (i - 2 * a0)) → ∀ (H : Heap) (locs : List Loc), va_P D vwCl (wC q k r S X1) H → va_D A (wC q k r S X1) → va_S A s.heap H locs → ∀ (ls : Array Slot), lv_has ls 7 [(6, .int (nI i)), (5, .int (nI f)), (0, .ref (q 2)), (1, .ref (q 1)), (2, .int (nI a0)), (3, .int (nI t0)), (4, .int (nI b0))] → W p l e (headSpec wsX0_waysBetween ({ frames := 7, cells := 0, slots := 0, locals := 174 } : Room)).room s m [.ref (q 2), .ref (q 1), .int (nI a0), .int (nI t0), .int (nI b0)].toArray below meth c H locs 0 0 (MQ below (va_Qi (fun (r : Int32) (u : (Nat → Nat → Nat) × (Nat → Nat → Nat)) => r = nI (cpl S (oZ Z) a0 t0 b0) ∧ u.1 = S ∧ u.2 = (upR Z 2 (fun j => if j < S 0 0 then met1 a0 j else Z 2 j))) (fun u t => wE D (A) (wC q k r u.1 u.2) t) (A)) [.ref (q 2), .ref (q 1), .int (nI a0), .int (nI t0), .int (nI b0)].toArray s 0 0 A) (F0 m 44 ls []) := by
          intro n44
          induction n44 with
          | zero =>
            intro i f X1 hfuel44 h2 h3 hX1 hf H locs hP hD hS ls hl
            exact absurd hfuel44 (by omega)
          | succ n44 ih44 =>
            intro i f X1 hfuel44 h2 h3 hX1 hf H locs hP hD hS ls hl
            have hM2 : ∀ p, X1 2 p ≤ 1 := fun p => by rw [hX1, upR_same]; unfold met1; split <;> first | (split <;> omega) | exact hZ2 p
            have hM0 : ∀ p, X1 0 p ≤ 1 := fun p => by rw [hX1]; exact hZ0 p
            have hML : LV S X1 := by rw [hX1]; exact LV_R hL
            refine lv_iload hx hb dX0_waysBetween_44 (lv_at hl 0 rfl) ?_
            refine lv_iconst (v := nI 2) hx hb dX0_waysBetween_46 (by decide) ?_
            refine lv_iload_n hx hb dX0_waysBetween_47 rfl (lv_at hl 4 rfl) ?_
            refine na_imul hx hb dX0_waysBetween_48 ?_
            refine lv_iconst (v := nI 1) hx hb dX0_waysBetween_49 (by decide) ?_
            refine na_iadd hx hb dX0_waysBetween_50 ?_
            refine na_icmp_gt (tgt := 84) hx hb (by omega) (by omega) dX0_waysBetween_51 (by decide) (fun h_51 => ?_) (fun h_51 => ?_)
            · skip
              refine lv_iload hx hb dX0_waysBetween_84 (lv_at hl 1 rfl) ?_
              exact W.iret (v := nI f) hx hb hr (fun t ht hW => ⟨⟨_, (S, X1), rfl, ⟨congrArg nI (by rw [hf, show i - 2 * a0 = 2 by omega]; rfl), rfl, hX1⟩, by rw [ht]; exact hP, hD⟩, hS.F ht⟩) hS.2.2 dX0_waysBetween_86
            · skip
              refine lv_aload_n hx hb dX0_waysBetween_54 rfl (lv_at hl 3 rfl) ?_
              refine lv_iload hx hb dX0_waysBetween_55 (lv_at hl 0 rfl) ?_
              refine rd_N (As := [.int (nI i)]) (rest := []) ⟨hx, hb, hml, hown, hts⟩ (k_X1_mayLeave l D q k r S X1 i hB (by omega)) ⟨va_cnB 1 hts gX0_waysBetween_X1_mayLeave_n45 rfl rfl rfl (hX.2.2 ("FloorGraph$Drive", 45, yX1_mayLeave) (by decide +kernel)) (hts (.initialized RX1) (by decide +kernel)) (by decide +kernel) ⟨by decide, by decide⟩, hts (.instanceMethod yX1_mayLeave) (by decide +kernel), hts (.selects RX1 yX1_mayLeave yX1_mayLeave) (by decide +kernel)⟩ hX hP (q0 := 1) rfl rfl rfl hl.1 rfl (Nat.le_of_ble_eq_true rfl) dX0_waysBetween_57 ⟨Nat.zero_le _, Nat.zero_le _⟩ ?_
              refine na_if_eq (tgt := 78) hx hb (bN_lt _) dX0_waysBetween_60 (by decide) (fun h_60 => ?_) (fun h_60 => ?_)
              · skip
                refine lv_iinc (v := nI (i + 1)) (lv' := [(6, .int (nI (i + 1))), (5, .int (nI f)), (0, .ref (q 2)), (1, .ref (q 1)), (2, .int (nI a0)), (3, .int (nI t0)), (4, .int (nI b0))]) hx hb dX0_waysBetween_78 hl (k := 0) rfl (nI_add _ 1) (by decide) rfl (fun ls hl => ?_)
                refine lv_goto (tgt := 44) hx hb dX0_waysBetween_81 (by decide) ?_
                exact ih44 (i + 1) f X1 (by omega) (by omega) (by omega) hX1 (by rw [sm_step h3, ← hf]; first | (rw [if_pos (bN_pos h_60)]; done) | (rw [if_neg (bN_no h_60)]; done) | (rw [if_neg (bN_no h_60)]; rfl)) _ _ hP hD hS ls hl
              · skip
                refine lv_iload hx hb dX0_waysBetween_63 (lv_at hl 1 rfl) ?_
                refine lv_aload_n hx hb dX0_waysBetween_65 rfl (lv_at hl 2 rfl) ?_
                refine lv_aload_n hx hb dX0_waysBetween_66 rfl (lv_at hl 3 rfl) ?_
                refine lv_iload hx hb dX0_waysBetween_67 (lv_at hl 0 rfl) ?_
                refine lv_iload_n hx hb dX0_waysBetween_69 rfl (lv_at hl 5 rfl) ?_
                refine lv_iload hx hb dX0_waysBetween_70 (lv_at hl 6 rfl) ?_
                refine wr_Vi (As := [.ref (q 1), .int (nI i), .int (nI t0), .int (nI b0)]) (rest := [.int (nI f)]) ⟨hx, hb, hml, hown, hts⟩ (k_ways l b0 (by omega) D q k r S X1 _ i t0 hB hM0 hM2 hML (by omega) ht0) (cwV 4 hts gX0_waysBetween_X0_waysOn rfl rfl rfl (by decide +kernel) ⟨(show b0 + 1 ≤ 7 by omega), (show 8 + (10 + 11) + 29 * b0 ≤ 174 by omega)⟩) hX hP hD hS hA (q0 := 2) rfl rfl rfl hl.1 rfl (Nat.le_of_ble_eq_true rfl) dX0_waysBetween_72 ⟨Nat.le_of_ble_eq_true rfl, Nat.le_of_ble_eq_true rfl⟩ (fun r_1 u_1 H locs hw_1 hP hD hS => ?_)
                obtain ⟨S_1, Z_1⟩ := u_1
                obtain ⟨e1, e2, e3⟩ := hw_1
                dsimp only at e2 e3 hP hD
                rw [e2, e3] at hP hD
                have e1 : _ = nI (cx S (oZ Z) t0 b0 (met1 a0) i) := e1.trans (congrArg nI (by rw [hX1, upR_same]; exact cx_cg h8 (fun _ _ => rfl) b0 _ _ i (fun j hj => if_pos hj)))
                subst e1
                have hP : va_P D vwCl (wC q k r S X1) H := hP
                have hD : va_D A (wC q k r S X1) := hD
                refine na_iadd hx hb dX0_waysBetween_75 ?_
                refine lv_istore (lv' := [(5, .int (nI (f + (cx S (oZ Z) t0 b0 (met1 a0) i)))), (6, .int (nI i)), (0, .ref (q 2)), (1, .ref (q 1)), (2, .int (nI a0)), (3, .int (nI t0)), (4, .int (nI b0))]) hx hb dX0_waysBetween_76 hl (by decide) rfl (fun ls hl => ?_)
                refine lv_iinc (v := nI (i + 1)) (lv' := [(6, .int (nI (i + 1))), (5, .int (nI (f + (cx S (oZ Z) t0 b0 (met1 a0) i)))), (0, .ref (q 2)), (1, .ref (q 1)), (2, .int (nI a0)), (3, .int (nI t0)), (4, .int (nI b0))]) hx hb dX0_waysBetween_78 hl (k := 1) rfl (nI_add _ 1) (by decide) rfl (fun ls hl => ?_)
                refine lv_goto (tgt := 44) hx hb dX0_waysBetween_81 (by decide) ?_
                exact ih44 (i + 1) ((f + (cx S (oZ Z) t0 b0 (met1 a0) i))) X1 (by omega) (by omega) (by omega) hX1 (by rw [sm_step h3, ← hf]; first | (rw [if_pos (bN_pos h_60)]; done) | (rw [if_neg (bN_no h_60)]; done) | (rw [if_neg (bN_no h_60)]; rfl)) _ _ hP hD hS ls hl
        exact L44 3 (2 * a0) 0 Y (by omega) (by omega) (by omega) (by rw [hY, show i = S 0 0 by omega]) (by rw [Nat.sub_self]; rfl) _ _ hP hD hS ls hl
      · skip
        refine lv_aload_n hx hb dX0_waysBetween_12 rfl (lv_at hl 1 rfl) ?_
        refine va_get (D := D) (v := .ref (q 17)) hx hb hts hin_X0 hown hX.1 hP 2 rfl rfl 2 (by decide) hf_19 (fun _ h9 => h9) rfl dX0_waysBetween_13 ?_
        refine lv_iload hx hb dX0_waysBetween_16 (lv_at hl 0 rfl) ?_
        refine lv_iload hx hb dX0_waysBetween_18 (lv_at hl 0 rfl) ?_
        refine lv_iload_n hx hb dX0_waysBetween_20 rfl (lv_at hl 3 rfl) ?_
        refine na_icmp_ne (tgt := 28) hx hb (by omega) (by omega) dX0_waysBetween_21 (by decide) (fun h_21 => ?_) (fun h_21 => ?_)
        · skip
          refine lv_iconst (v := nI 0) hx hb dX0_waysBetween_28 (by decide) ?_
          refine na_zast hx hb hX.1 hP hD hS 17 1 rfl rfl (by omega) (by omega) (by decide) (upd_enc nI _ _ _) dX0_waysBetween_29 (fun H locs hP hD hS => ?_)
          have hP : va_P D vwCl (wC q k r S (up2 Y 2 i 0)) H := sP_C17 hP
          have hD : va_D A (wC q k r S (up2 Y 2 i 0)) := sD_C17 hD
          refine lv_iinc (v := nI (i + 1)) (lv' := [(5, .int (nI (i + 1))), (0, .ref (q 2)), (1, .ref (q 1)), (2, .int (nI a0)), (3, .int (nI t0)), (4, .int (nI b0))]) hx hb dX0_waysBetween_30 hl (k := 0) rfl (nI_add _ 1) (by decide) rfl (fun ls hl => ?_)
          refine lv_goto (tgt := 3) hx hb dX0_waysBetween_33 (by decide) ?_
          exact ih3 (i + 1) ((up2 Y 2 i 0)) (by omega) (by omega) (by rw [hY]; exact fillG_s Z 2 i (met1 a0) (by first | exact (if_pos h_21).symm | exact (if_neg h_21).symm)) _ _ hP hD hS ls hl
        · skip
          refine lv_iconst (v := nI 1) hx hb dX0_waysBetween_24 (by decide) ?_
          refine lv_goto (tgt := 29) hx hb dX0_waysBetween_25 (by decide) ?_
          refine na_zast hx hb hX.1 hP hD hS 17 1 rfl rfl (by omega) (by omega) (by decide) (upd_enc nI _ _ _) dX0_waysBetween_29 (fun H locs hP hD hS => ?_)
          have hP : va_P D vwCl (wC q k r S (up2 Y 2 i 1)) H := sP_C17 hP
          have hD : va_D A (wC q k r S (up2 Y 2 i 1)) := sD_C17 hD
          refine lv_iinc (v := nI (i + 1)) (lv' := [(5, .int (nI (i + 1))), (0, .ref (q 2)), (1, .ref (q 1)), (2, .int (nI a0)), (3, .int (nI t0)), (4, .int (nI b0))]) hx hb dX0_waysBetween_30 hl (k := 0) rfl (nI_add _ 1) (by decide) rfl (fun ls hl => ?_)
          refine lv_goto (tgt := 3) hx hb dX0_waysBetween_33 (by decide) ?_
          exact ih3 (i + 1) ((up2 Y 2 i 1)) (by omega) (by omega) (by rw [hY]; exact fillG_s Z 2 i (met1 a0) (by first | exact (if_pos h_21).symm | exact (if_neg h_21).symm)) _ _ hP hD hS ls hl
  exact L3 (S 0 0 + 1) 0 Z (by omega) (by omega) (fillG_0 Z 2 (met1 a0)) _ _ hP hD hS ls hl
