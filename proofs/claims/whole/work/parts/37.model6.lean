set_option maxHeartbeats 4000000 in
set_option maxRecDepth 100000 in
theorem k_X3_nearest (l : Launch) (D : va_G) (q : Nat → Nat) (k : Nat → ClassId) (S Z : Nat → Nat → Nat) (sz : Nat) (x0 : Int32) (x1 : Int32) (x2 : Int32) (hB : Bd S) (hJ : Jn S) (hR : Rb (Z 1)) (hG : Gr S (2 * S 0 0)) : Met l yX3_nearest wsX3_nearest ({ frames := 5, cells := 0, slots := 0, locals := 124 } : Room) (va_Pc [.ref (q 0), .int x0, .int x1, .int x2] (wB D k (wM q k S Z) sz)) (va_Qi (fun (r : Int32) (u : (Nat → Nat → Nat) × (Nat → Nat → Nat)) => (cd1 (okD S x0 x1 x1 x2) = 0 → r = pI (nrB S (S 11 (iN x0)) (iN x2) (iN x1) (S 0 0)).1) ∧ u.1 = S ∧ u.2 0 0 = cd1 (okD S x0 x1 x1 x2) ∧ Rb (u.2 1)) (fun u t => wE D (va_A (wM q k S Z) sz) (wM q k u.1 u.2) t) (va_A (wM q k S Z) sz)) 0 0 (va_A (wM q k S Z) sz) := by
  refine Met.ofW (cc := cX3_nearest) (maxL := 9) (ret := (some .int)) (by decide) rfl ?_
  intro p e s m args below meth c s₁ B hml hv
  obtain ⟨rfl, hsz, hP, hX, hD0⟩ := hv
  have hx := B.exec
  have hb := B.bytes
  have hr := B.returns
  have hts := atoms_spec (ws := wsX3_nearest) B.pre
  have hown : s.vm.findClass RX3 = some m.cls := findClass_of_methodNamed B.named
  have hlocks := B.notSynchronized
  subst hsz
  have hD := hD0.self (sz := s.heap.size)
  generalize hAe : va_A (wM q k S Z) s.heap.size = A at hD ⊢
  have hA : ∀ q : Nat, s.heap.size ≤ q → A q := fun q h => by rw [← hAe]; exact Or.inr h
  have hS : va_S A s.heap s.heap [] := va_S.rf
  have hP : va_P D vwCl (wM q k S Z) s.heap := hP
  have hf_44 := hts (.fieldLink RX3 44 "FloorGraphModel" "chargerAt" "[I") (by decide +kernel)
  have hf_59 := hts (.fieldLink RX3 59 "FloorGraphModel" "code" "I") (by decide +kernel)
  have hf_63 := hts (.fieldLink RX3 63 "FloorGraphModel" "pieces" "I") (by decide +kernel)
  have hf_138 := hts (.fieldLink RX3 138 "FloorGraphModel" "chargers" "I") (by decide +kernel)
  have hin_X3 : ∀ w ∈ u_ws RX3 TX3 24, w ∈ wsX3_nearest := by decide +kernel
  have f0 := hB.1
  have hl := lv_entry ([.ref (q 0), .int x0, .int x1, .int x2]) (n := 9) (Nat.le_of_ble_eq_true rfl)
  rw [lg_entry_eq]
  generalize (lg_sl ([.ref (q 0), .int x0, .int x1, .int x2]) ++ List.replicate (9 - (lg_sl ([.ref (q 0), .int x0, .int x1, .int x2])).length) Slot.unset).toArray = ls at hl ⊢
  have hl : lv_has ls 9 [(0, .ref (q 0)), (1, .int x0), (2, .int x1), (3, .int x2)] := hl
  refine lv_aload_n hx hb dX3_nearest_0 rfl (lv_at hl 0 rfl) ?_
  refine lv_aload_n hx hb dX3_nearest_1 rfl (lv_at hl 0 rfl) ?_
  refine lv_iload_n hx hb dX3_nearest_2 rfl (lv_at hl 1 rfl) ?_
  refine lv_iload_n hx hb dX3_nearest_3 rfl (lv_at hl 2 rfl) ?_
  refine lv_iload_n hx hb dX3_nearest_4 rfl (lv_at hl 2 rfl) ?_
  refine lv_iload_n hx hb dX3_nearest_5 rfl (lv_at hl 3 rfl) ?_
  refine rd_V (As := [.int x0, .int x1, .int x1, .int x2]) (rest := [.ref (q 0)]) ⟨hx, hb, hml, hown, hts⟩ (k_X3_isDrive l D q k S Z x0 x1 x1 x2 hB) (cwV 4 hts gX3_nearest_X3_isDrive rfl rfl rfl (by decide +kernel) ⟨by decide, by decide⟩) hX hP (q0 := 0) rfl rfl rfl hl.1 rfl (Nat.le_of_ble_eq_true rfl) dX3_nearest_6 ⟨Nat.zero_le _, Nat.zero_le _⟩ ?_
  refine na_if_eq (tgt := 16) hx hb (bN_lt _) dX3_nearest_9 (by decide) (fun h_9 => ?_) (fun h_9 => ?_)
  · skip
    refine lv_iconst (v := nI 1) hx hb dX3_nearest_16 (by decide) ?_
    refine va_put (D := D) (v := .int (nI 1)) (ty := .int) hx hb hts hin_X3 tyX3 tyX3_ok nmX3 hown hX.1 hP hD hS 0 rfl rfl 0 (by decide) hf_59 (fun _ h9 => h9) rfl (by decide +kernel) rfl rfl (Nat.le_of_ble_eq_true rfl) dX3_nearest_17 (fun H locs hP hD hS => ?_)
    have hP : va_P D vwCl (wM q k S (up2 Z 0 0 1)) H := sP_M0_0 hP
    have hD : va_D A (wM q k S (up2 Z 0 0 1)) := sD_M0_0 hD
    refine lv_aload_n hx hb dX3_nearest_20 rfl (lv_at hl 0 rfl) ?_
    refine va_get (D := D) (v := .int (nI 1)) hx hb hts hin_X3 hown hX.1 hP 0 rfl rfl 0 (by decide) hf_59 (fun _ h9 => h9) rfl dX3_nearest_21 ?_
    refine na_if_le (tgt := 29) hx hb (by omega) dX3_nearest_24 (by decide) (fun h_24 => ?_) (fun h_24 => ?_)
    · exact absurd h_24 (by decide)
    · skip
      refine lv_iconst (v := nI 0) hx hb dX3_nearest_27 (by decide) ?_
      exact W.iret (v := nI 0) hx hb hr (fun t ht hW => ⟨⟨_, (S, (up2 Z 0 0 1)), rfl, (have hc : cd1 (okD S x0 x1 x1 x2) = 1 := cd1_1 (okD_f h_9); ⟨fun q => absurd (hc.symm.trans q) (by decide), rfl, by rw [hc]; rfl, hR⟩), by rw [ht]; exact hP, hD⟩, hS.F ht⟩) hS.2.2 dX3_nearest_28
  · skip
    refine lv_iconst (v := nI 0) hx hb dX3_nearest_12 (by decide) ?_
    refine lv_goto (tgt := 17) hx hb dX3_nearest_13 (by decide) ?_
    refine va_put (D := D) (v := .int (nI 0)) (ty := .int) hx hb hts hin_X3 tyX3 tyX3_ok nmX3 hown hX.1 hP hD hS 0 rfl rfl 0 (by decide) hf_59 (fun _ h9 => h9) rfl (by decide +kernel) rfl rfl (Nat.le_of_ble_eq_true rfl) dX3_nearest_17 (fun H locs hP hD hS => ?_)
    have hP : va_P D vwCl (wM q k S (up2 Z 0 0 0)) H := sP_M0_0 hP
    have hD : va_D A (wM q k S (up2 Z 0 0 0)) := sD_M0_0 hD
    refine lv_aload_n hx hb dX3_nearest_20 rfl (lv_at hl 0 rfl) ?_
    refine va_get (D := D) (v := .int (nI 0)) hx hb hts hin_X3 hown hX.1 hP 0 rfl rfl 0 (by decide) hf_59 (fun _ h9 => h9) rfl dX3_nearest_21 ?_
    refine na_if_le (tgt := 29) hx hb (by omega) dX3_nearest_24 (by decide) (fun h_24 => ?_) (fun h_24 => ?_)
    · skip
      have i0 := okD_t h_9
      have j0 := iN_toInt (x := x0) i0.1.1
      have j1 := iN_toInt (x := x1) i0.2.1.1
      have j2 := iN_toInt (x := x2) i0.2.2.2.1
      have l1 := i0.2.1.lt
      have l0 := i0.1.2
      have l3 := i0.2.2.2.2
      refine lv_aload_n hx hb dX3_nearest_29 rfl (lv_at hl 0 rfl) ?_
      refine lv_iload_n hx hb dX3_nearest_30 rfl (lv_at hl 1 rfl) ?_
      refine na_as (y := nI (iN x0)) (iN_eq i0.1.1) ?_
      refine lv_iload_n hx hb dX3_nearest_31 rfl (lv_at hl 2 rfl) ?_
      refine na_as (y := nI (iN x1)) (iN_eq i0.2.1.1) ?_
      refine lv_iload_n hx hb dX3_nearest_32 rfl (lv_at hl 3 rfl) ?_
      refine na_as (y := nI (iN x2)) (iN_eq i0.2.2.2.1) ?_
      refine wr_Vv (As := [.int (nI (iN x0)), .int (nI (iN x1)), .int (nI (iN x2))]) (rest := []) ⟨hx, hb, hml, hown, hts⟩ (k_X3_reachAll l D q k S (up2 Z 0 0 0) _ (iN x0) (iN x1) (iN x2) hB hJ hR hG (by omega) l1 (by omega)) (cwV 3 hts gX3_nearest_X3_reachAll rfl rfl rfl (by decide +kernel) ⟨by decide, by decide⟩) hX hP hD hS hA (q0 := 0) rfl rfl rfl hl.1 rfl (Nat.le_of_ble_eq_true rfl) dX3_nearest_33 ⟨Nat.le_of_ble_eq_true rfl, Nat.le_of_ble_eq_true rfl⟩ (fun u_1 H locs hw_1 hP hD hS => ?_)
      obtain ⟨S_1, Z_1⟩ := u_1
      obtain ⟨e1, e2⟩ := hw_1
      dsimp only at e1 e2 hP hD
      rw [e1, e2] at hP hD
      have hP : va_P D vwCl (wM q k S (upR (up2 Z 0 0 0) 1 (itr S (opn S (S 11 (iN x0)) (iN x2)) (rs S (iN x1) ((up2 Z 0 0 0) 1)) 40))) H := hP
      have hD : va_D A (wM q k S (upR (up2 Z 0 0 0) 1 (itr S (opn S (S 11 (iN x0)) (iN x2)) (rs S (iN x1) ((up2 Z 0 0 0) 1)) 40))) := hD
      refine lv_iconst (v := pI 0) hx hb dX3_nearest_36 (by decide) ?_
      refine lv_istore (lv' := [(4, .int (pI 0)), (0, .ref (q 0)), (1, .int x0), (2, .int x1), (3, .int x2)]) hx hb dX3_nearest_37 hl (by decide) rfl (fun ls hl => ?_)
      refine lv_iconst (v := pI 0) hx hb dX3_nearest_39 (by decide) ?_
      refine na_as (y := rI 1000000) rI_none.symm ?_
      refine lv_istore (lv' := [(5, .int (rI 1000000)), (4, .int (pI 0)), (0, .ref (q 0)), (1, .int x0), (2, .int x1), (3, .int x2)]) hx hb dX3_nearest_40 hl (by decide) rfl (fun ls hl => ?_)
      refine lv_iconst (v := nI 0) hx hb dX3_nearest_42 (by decide) ?_
      refine lv_istore (lv' := [(6, .int (nI 0)), (5, .int (rI 1000000)), (4, .int (pI 0)), (0, .ref (q 0)), (1, .int x0), (2, .int x1), (3, .int x2)]) hx hb dX3_nearest_43 hl (by decide) rfl (fun ls hl => ?_)
      have L45 : ∀ (n45 : Nat) (i : Nat) (b : Nat) (x : Nat), (S 0 0 < i + n45) → (h1 : i ≤ S 0 0) → (h3 : nrB S (S 11 (iN x0)) (iN x2) (iN x1) i = (b, x)) → ∀ (H : Heap) (locs : List Loc), va_P D vwCl (wM q k S (upR (up2 Z 0 0 0) 1 (itr S (opn S (S 11 (iN x0)) (iN x2)) (rs S (iN x1) ((up2 Z 0 0 0) 1)) 40))) H → va_D A (wM q k S (upR (up2 Z 0 0 0) 1 (itr S (opn S (S 11 (iN x0)) (iN x2)) (rs S (iN x1) ((up2 Z 0 0 0) 1)) 40))) → va_S A s.heap H locs → ∀ (ls : Array Slot), lv_has ls 9 [(6, .int (nI i)), (5, .int (rI x)), (4, .int (pI b)), (0, .ref (q 0)), (1, .int x0), (2, .int x1), (3, .int x2)] → W p l e (headSpec wsX3_nearest ({ frames := 5, cells := 0, slots := 0, locals := 124 } : Room)).room s m [.ref (q 0), .int x0, .int x1, .int x2].toArray below meth c H locs 0 0 (MQ below (va_Qi (fun (r : Int32) (u : (Nat → Nat → Nat) × (Nat → Nat → Nat)) => (cd1 (okD S x0 x1 x1 x2) = 0 → r = pI (nrB S (S 11 (iN x0)) (iN x2) (iN x1) (S 0 0)).1) ∧ u.1 = S ∧ u.2 0 0 = cd1 (okD S x0 x1 x1 x2) ∧ Rb (u.2 1)) (fun u t => wE D (A) (wM q k u.1 u.2) t) (A)) [.ref (q 0), .int x0, .int x1, .int x2].toArray s 0 0 A) (F0 m 45 ls []) := by
        intro n45
        induction n45 with
        | zero =>
          intro i b x hfuel45 h1 h3 H locs hP hD hS ls hl
          exact absurd hfuel45 (by omega)
        | succ n45 ih45 =>
          intro i b x hfuel45 h1 h3 H locs hP hD hS ls hl
          have fsl := secs_le (S := S) (w := S 11 (iN x0)) (h := iN x2) (a := iN x1) (t := i)
          have f3 := nrB_ok (S := S) (w := S 11 (iN x0)) (h := iN x2) (a := iN x1) i
          rw [h3] at f3
          dsimp only at f3
          refine lv_iload hx hb dX3_nearest_45 (lv_at hl 0 rfl) ?_
          refine lv_aload_n hx hb dX3_nearest_47 rfl (lv_at hl 3 rfl) ?_
          refine va_get (D := D) (v := .int (nI (S 0 0))) hx hb hts hin_X3 hown hX.1 hP 0 rfl rfl 1 (by decide) hf_63 (fun _ h9 => h9) rfl dX3_nearest_48 ?_
          refine na_icmp_ge (tgt := 155) hx hb (by omega) (by omega) dX3_nearest_51 (by decide) (fun h_51 => ?_) (fun h_51 => ?_)
          · skip
            refine lv_iload hx hb dX3_nearest_155 (lv_at hl 2 rfl) ?_
            exact W.iret (v := pI b) hx hb hr (fun t ht hW => ⟨⟨_, (S, (upR (up2 Z 0 0 0) 1 (itr S (opn S (S 11 (iN x0)) (iN x2)) (rs S (iN x1) ((up2 Z 0 0 0) 1)) 40))), rfl, (have hc : cd1 (okD S x0 x1 x1 x2) = 0 := cd1_0 i0; ⟨fun _ => by rw [← show i = S 0 0 by omega, h3], rfl, by rw [hc]; rfl, by dsimp only; rw [upR_same]; exact Rb_fin hG hR⟩), by rw [ht]; exact hP, hD⟩, hS.F ht⟩) hS.2.2 dX3_nearest_157
          · skip
            refine lv_iconst (v := nI 0) hx hb dX3_nearest_54 (by decide) ?_
            refine lv_istore (lv' := [(7, .int (nI 0)), (6, .int (nI i)), (5, .int (rI x)), (4, .int (pI b)), (0, .ref (q 0)), (1, .int x0), (2, .int x1), (3, .int x2)]) hx hb dX3_nearest_55 hl (by decide) rfl (fun ls hl => ?_)
            refine lv_iconst (v := nI 0) hx hb dX3_nearest_57 (by decide) ?_
            refine lv_istore (lv' := [(8, .int (nI 0)), (7, .int (nI 0)), (6, .int (nI i)), (5, .int (rI x)), (4, .int (pI b)), (0, .ref (q 0)), (1, .int x0), (2, .int x1), (3, .int x2)]) hx hb dX3_nearest_58 hl (by decide) rfl (fun ls hl => ?_)
            have L60 : ∀ (n60 : Nat) (j : Nat) (f : Nat), (S 0 3 < j + n60) → (h4 : j ≤ S 0 3) → (hf : f = bN (anyB (fun k => decide (S 12 k = i)) j)) → ∀ (H : Heap) (locs : List Loc), va_P D vwCl (wM q k S (upR (up2 Z 0 0 0) 1 (itr S (opn S (S 11 (iN x0)) (iN x2)) (rs S (iN x1) ((up2 Z 0 0 0) 1)) 40))) H → va_D A (wM q k S (upR (up2 Z 0 0 0) 1 (itr S (opn S (S 11 (iN x0)) (iN x2)) (rs S (iN x1) ((up2 Z 0 0 0) 1)) 40))) → va_S A s.heap H locs → ∀ (ls : Array Slot), lv_has ls 9 [(8, .int (nI j)), (7, .int (nI f)), (6, .int (nI i)), (5, .int (rI x)), (4, .int (pI b)), (0, .ref (q 0)), (1, .int x0), (2, .int x1), (3, .int x2)] → W p l e (headSpec wsX3_nearest ({ frames := 5, cells := 0, slots := 0, locals := 124 } : Room)).room s m [.ref (q 0), .int x0, .int x1, .int x2].toArray below meth c H locs 0 0 (MQ below (va_Qi (fun (r : Int32) (u : (Nat → Nat → Nat) × (Nat → Nat → Nat)) => (cd1 (okD S x0 x1 x1 x2) = 0 → r = pI (nrB S (S 11 (iN x0)) (iN x2) (iN x1) (S 0 0)).1) ∧ u.1 = S ∧ u.2 0 0 = cd1 (okD S x0 x1 x1 x2) ∧ Rb (u.2 1)) (fun u t => wE D (A) (wM q k u.1 u.2) t) (A)) [.ref (q 0), .int x0, .int x1, .int x2].toArray s 0 0 A) (F0 m 60 ls []) := by
              intro n60
              induction n60 with
              | zero =>
                intro j f hfuel60 h4 hf H locs hP hD hS ls hl
                exact absurd hfuel60 (by omega)
              | succ n60 ih60 =>
                intro j f hfuel60 h4 hf H locs hP hD hS ls hl
                have f12 := (hB.2.2.2.2 j).2.1
                have ffl := bN_le (anyB (fun k => decide (S 12 k = i)) j)
                refine lv_iload hx hb dX3_nearest_60 (lv_at hl 0 rfl) ?_
                refine lv_aload_n hx hb dX3_nearest_62 rfl (lv_at hl 5 rfl) ?_
                refine va_get (D := D) (v := .int (nI (S 0 3))) hx hb hts hin_X3 hown hX.1 hP 0 rfl rfl 15 (by decide) hf_138 (fun _ h9 => h9) rfl dX3_nearest_63 ?_
                refine na_icmp_ge (tgt := 99) hx hb (by omega) (by omega) dX3_nearest_66 (by decide) (fun h_66 => ?_) (fun h_66 => ?_)
                · skip
                  refine lv_iload hx hb dX3_nearest_99 (lv_at hl 1 rfl) ?_
                  refine na_if_eq (tgt := 116) hx hb (by rw [hf]; exact bN_lt _) dX3_nearest_101 (by decide) (fun h_101 => ?_) (fun h_101 => ?_)
                  · skip
                    refine lv_iconst (v := pI 0) hx hb dX3_nearest_116 (by decide) ?_
                    refine na_as (y := rI 1000000) rI_none.symm ?_
                    refine lv_istore (lv' := [(8, .int (rI 1000000)), (7, .int (nI f)), (6, .int (nI i)), (5, .int (rI x)), (4, .int (pI b)), (0, .ref (q 0)), (1, .int x0), (2, .int x1), (3, .int x2)]) hx hb dX3_nearest_117 hl (by decide) rfl (fun ls hl => ?_)
                    refine lv_iload hx hb dX3_nearest_119 (lv_at hl 0 rfl) ?_
                    refine lv_iconst (v := pI 0) hx hb dX3_nearest_121 (by decide) ?_
                    refine nz_icmp_eq (tgt := 149) hx hb (by have := secs_le (S := S) (w := S 11 (iN x0)) (h := iN x2) (a := iN x1) (t := i); omega) dX3_nearest_122 (by decide) (fun h_122 => ?_) (fun h_122 => ?_)
                    · skip
                      refine lv_iinc (v := nI (i + 1)) (lv' := [(6, .int (nI (i + 1))), (8, .int (rI 1000000)), (7, .int (nI f)), (5, .int (rI x)), (4, .int (pI b)), (0, .ref (q 0)), (1, .int x0), (2, .int x1), (3, .int x2)]) hx hb dX3_nearest_149 hl (k := 2) rfl (nI_add _ 1) (by decide) rfl (fun ls hl => ?_)
                      refine lv_goto (tgt := 45) hx hb dX3_nearest_152 (by decide) ?_
                      have hch : bN (hasCh S i) = f := by rw [hasCh, ← show j = S 0 3 by omega]; exact hf.symm
                      exact ih45 (i + 1) b x (by omega) (by omega) (by first | exact nrB_n h3 (fun q => absurd q.1 (bN_no (by rw [hch]; exact h_101))) | exact nrB_n h3 (fun q => absurd q.2 (by omega)) | exact nrB_y h3 (bN_pos (by rw [hch]; exact h_101)) (by omega)) _ _ hP hD hS ls (lv_sub hl [0, 3, 4, 5, 6, 7, 8] rfl)
                    · skip
                      exact absurd rfl h_122
                  · skip
                    refine lv_aload_n hx hb dX3_nearest_104 rfl (lv_at hl 5 rfl) ?_
                    refine lv_iload_n hx hb dX3_nearest_105 rfl (lv_at hl 6 rfl) ?_
                    refine na_as (y := nI (iN x0)) (iN_eq i0.1.1) ?_
                    refine lv_iload_n hx hb dX3_nearest_106 rfl (lv_at hl 7 rfl) ?_
                    refine na_as (y := nI (iN x1)) (iN_eq i0.2.1.1) ?_
                    refine lv_iload hx hb dX3_nearest_107 (lv_at hl 2 rfl) ?_
                    refine lv_iload_n hx hb dX3_nearest_109 rfl (lv_at hl 8 rfl) ?_
                    refine na_as (y := nI (iN x2)) (iN_eq i0.2.2.2.1) ?_
                    refine rd_V (As := [.int (nI (iN x0)), .int (nI (iN x1)), .int (nI i), .int (nI (iN x2))]) (rest := []) ⟨hx, hb, hml, hown, hts⟩ (k_X3_secondsTo l D q k S (upR (up2 Z 0 0 0) 1 (itr S (opn S (S 11 (iN x0)) (iN x2)) (rs S (iN x1) ((up2 Z 0 0 0) 1)) 40)) (iN x0) (iN x1) i (iN x2) hB hJ (by rw [upR_same]; exact Rb_fin hG hR) (by omega) (by omega) (by omega) (by omega)) (cwV 4 hts gX3_nearest_X3_secondsTo rfl rfl rfl (by decide +kernel) ⟨by decide, by decide⟩) hX hP (q0 := 0) rfl rfl rfl hl.1 rfl (Nat.le_of_ble_eq_true rfl) dX3_nearest_110 ⟨Nat.zero_le _, Nat.zero_le _⟩ ?_
                    refine na_as (y := rI (secs S (S 11 (iN x0)) (iN x2) (iN x1) i)) (congrArg rI (by rw [upR_same]; exact secs_m hG)) ?_
                    refine lv_goto (tgt := 117) hx hb dX3_nearest_113 (by decide) ?_
                    refine lv_istore (lv' := [(8, .int (rI (secs S (S 11 (iN x0)) (iN x2) (iN x1) i))), (7, .int (nI f)), (6, .int (nI i)), (5, .int (rI x)), (4, .int (pI b)), (0, .ref (q 0)), (1, .int x0), (2, .int x1), (3, .int x2)]) hx hb dX3_nearest_117 hl (by decide) rfl (fun ls hl => ?_)
                    refine lv_iload hx hb dX3_nearest_119 (lv_at hl 0 rfl) ?_
                    refine lv_iconst (v := pI 0) hx hb dX3_nearest_121 (by decide) ?_
                    refine nz_icmp_eq (tgt := 149) hx hb (by have := secs_le (S := S) (w := S 11 (iN x0)) (h := iN x2) (a := iN x1) (t := i); omega) dX3_nearest_122 (by decide) (fun h_122 => ?_) (fun h_122 => ?_)
                    · skip
                      refine lv_iinc (v := nI (i + 1)) (lv' := [(6, .int (nI (i + 1))), (8, .int (rI (secs S (S 11 (iN x0)) (iN x2) (iN x1) i))), (7, .int (nI f)), (5, .int (rI x)), (4, .int (pI b)), (0, .ref (q 0)), (1, .int x0), (2, .int x1), (3, .int x2)]) hx hb dX3_nearest_149 hl (k := 2) rfl (nI_add _ 1) (by decide) rfl (fun ls hl => ?_)
                      refine lv_goto (tgt := 45) hx hb dX3_nearest_152 (by decide) ?_
                      have hch : bN (hasCh S i) = f := by rw [hasCh, ← show j = S 0 3 by omega]; exact hf.symm
                      exact ih45 (i + 1) b x (by omega) (by omega) (by first | exact nrB_n h3 (fun q => absurd q.1 (bN_no (by rw [hch]; exact h_101))) | exact nrB_n h3 (fun q => absurd q.2 (by omega)) | exact nrB_y h3 (bN_pos (by rw [hch]; exact h_101)) (by omega)) _ _ hP hD hS ls (lv_sub hl [0, 3, 4, 5, 6, 7, 8] rfl)
                    · skip
                      refine lv_iload hx hb dX3_nearest_125 (lv_at hl 4 rfl) ?_
                      refine lv_iconst (v := pI 0) hx hb dX3_nearest_127 (by decide) ?_
                      refine np_icmp_eq (tgt := 141) hx hb (by omega) (by omega) dX3_nearest_128 (by decide) (fun h_128 => ?_) (fun h_128 => ?_)
                      · skip
                        refine lv_iload hx hb dX3_nearest_141 (lv_at hl 2 rfl) ?_
                        refine na_as (y := pI (i + 1)) (pI_s i) ?_
                        refine lv_istore (lv' := [(4, .int (pI (i + 1))), (8, .int (rI (secs S (S 11 (iN x0)) (iN x2) (iN x1) i))), (7, .int (nI f)), (6, .int (nI i)), (5, .int (rI x)), (0, .ref (q 0)), (1, .int x0), (2, .int x1), (3, .int x2)]) hx hb dX3_nearest_143 hl (by decide) rfl (fun ls hl => ?_)
                        refine lv_iload hx hb dX3_nearest_145 (lv_at hl 1 rfl) ?_
                        refine lv_istore (lv' := [(5, .int (rI (secs S (S 11 (iN x0)) (iN x2) (iN x1) i))), (4, .int (pI (i + 1))), (8, .int (rI (secs S (S 11 (iN x0)) (iN x2) (iN x1) i))), (7, .int (nI f)), (6, .int (nI i)), (0, .ref (q 0)), (1, .int x0), (2, .int x1), (3, .int x2)]) hx hb dX3_nearest_147 hl (by decide) rfl (fun ls hl => ?_)
                        refine lv_iinc (v := nI (i + 1)) (lv' := [(6, .int (nI (i + 1))), (5, .int (rI (secs S (S 11 (iN x0)) (iN x2) (iN x1) i))), (4, .int (pI (i + 1))), (8, .int (rI (secs S (S 11 (iN x0)) (iN x2) (iN x1) i))), (7, .int (nI f)), (0, .ref (q 0)), (1, .int x0), (2, .int x1), (3, .int x2)]) hx hb dX3_nearest_149 hl (k := 4) rfl (nI_add _ 1) (by decide) rfl (fun ls hl => ?_)
                        refine lv_goto (tgt := 45) hx hb dX3_nearest_152 (by decide) ?_
                        have hch : bN (hasCh S i) = f := by rw [hasCh, ← show j = S 0 3 by omega]; exact hf.symm
                        exact ih45 (i + 1) ((i + 1)) ((secs S (S 11 (iN x0)) (iN x2) (iN x1) i)) (by omega) (by omega) (by first | exact nrB_n h3 (fun q => absurd q.1 (bN_no (by rw [hch]; exact h_101))) | exact nrB_n h3 (fun q => absurd q.2 (by omega)) | exact nrB_y h3 (bN_pos (by rw [hch]; exact h_101)) (by omega)) _ _ hP hD hS ls (lv_sub hl [0, 1, 2, 5, 6, 7, 8] rfl)
                      · skip
                        refine lv_iload hx hb dX3_nearest_131 (lv_at hl 0 rfl) ?_
                        refine na_as (y := nI (secs S (S 11 (iN x0)) (iN x2) (iN x1) i)) (rI_some h_122) ?_
                        refine lv_iload hx hb dX3_nearest_133 (lv_at hl 3 rfl) ?_
                        refine na_as (y := nI x) (rI_some (by omega)) ?_
                        refine na_icmp_lt (tgt := 141) hx hb (by have := secs_le (S := S) (w := S 11 (iN x0)) (h := iN x2) (a := iN x1) (t := i); omega) (by have := secs_le (S := S) (w := S 11 (iN x0)) (h := iN x2) (a := iN x1) (t := i); omega) dX3_nearest_135 (by decide) (fun h_135 => ?_) (fun h_135 => ?_)
                        · skip
                          refine lv_iload hx hb dX3_nearest_141 (lv_at hl 2 rfl) ?_
                          refine na_as (y := pI (i + 1)) (pI_s i) ?_
                          refine lv_istore (lv' := [(4, .int (pI (i + 1))), (8, .int (rI (secs S (S 11 (iN x0)) (iN x2) (iN x1) i))), (7, .int (nI f)), (6, .int (nI i)), (5, .int (rI x)), (0, .ref (q 0)), (1, .int x0), (2, .int x1), (3, .int x2)]) hx hb dX3_nearest_143 hl (by decide) rfl (fun ls hl => ?_)
                          refine lv_iload hx hb dX3_nearest_145 (lv_at hl 1 rfl) ?_
                          refine lv_istore (lv' := [(5, .int (rI (secs S (S 11 (iN x0)) (iN x2) (iN x1) i))), (4, .int (pI (i + 1))), (8, .int (rI (secs S (S 11 (iN x0)) (iN x2) (iN x1) i))), (7, .int (nI f)), (6, .int (nI i)), (0, .ref (q 0)), (1, .int x0), (2, .int x1), (3, .int x2)]) hx hb dX3_nearest_147 hl (by decide) rfl (fun ls hl => ?_)
                          refine lv_iinc (v := nI (i + 1)) (lv' := [(6, .int (nI (i + 1))), (5, .int (rI (secs S (S 11 (iN x0)) (iN x2) (iN x1) i))), (4, .int (pI (i + 1))), (8, .int (rI (secs S (S 11 (iN x0)) (iN x2) (iN x1) i))), (7, .int (nI f)), (0, .ref (q 0)), (1, .int x0), (2, .int x1), (3, .int x2)]) hx hb dX3_nearest_149 hl (k := 4) rfl (nI_add _ 1) (by decide) rfl (fun ls hl => ?_)
                          refine lv_goto (tgt := 45) hx hb dX3_nearest_152 (by decide) ?_
                          have hch : bN (hasCh S i) = f := by rw [hasCh, ← show j = S 0 3 by omega]; exact hf.symm
                          exact ih45 (i + 1) ((i + 1)) ((secs S (S 11 (iN x0)) (iN x2) (iN x1) i)) (by omega) (by omega) (by first | exact nrB_n h3 (fun q => absurd q.1 (bN_no (by rw [hch]; exact h_101))) | exact nrB_n h3 (fun q => absurd q.2 (by omega)) | exact nrB_y h3 (bN_pos (by rw [hch]; exact h_101)) (by omega)) _ _ hP hD hS ls (lv_sub hl [0, 1, 2, 5, 6, 7, 8] rfl)
                        · skip
                          refine lv_goto (tgt := 149) hx hb dX3_nearest_138 (by decide) ?_
                          refine lv_iinc (v := nI (i + 1)) (lv' := [(6, .int (nI (i + 1))), (8, .int (rI (secs S (S 11 (iN x0)) (iN x2) (iN x1) i))), (7, .int (nI f)), (5, .int (rI x)), (4, .int (pI b)), (0, .ref (q 0)), (1, .int x0), (2, .int x1), (3, .int x2)]) hx hb dX3_nearest_149 hl (k := 2) rfl (nI_add _ 1) (by decide) rfl (fun ls hl => ?_)
                          refine lv_goto (tgt := 45) hx hb dX3_nearest_152 (by decide) ?_
                          have hch : bN (hasCh S i) = f := by rw [hasCh, ← show j = S 0 3 by omega]; exact hf.symm
                          exact ih45 (i + 1) b x (by omega) (by omega) (by first | exact nrB_n h3 (fun q => absurd q.1 (bN_no (by rw [hch]; exact h_101))) | exact nrB_n h3 (fun q => absurd q.2 (by omega)) | exact nrB_y h3 (bN_pos (by rw [hch]; exact h_101)) (by omega)) _ _ hP hD hS ls (lv_sub hl [0, 3, 4, 5, 6, 7, 8] rfl)
                · skip
                  refine lv_iload hx hb dX3_nearest_69 (lv_at hl 1 rfl) ?_
                  refine na_if_ne (tgt := 86) hx hb (by rw [hf]; exact bN_lt _) dX3_nearest_71 (by decide) (fun h_71 => ?_) (fun h_71 => ?_)
                  · skip
                    refine lv_iconst (v := nI 1) hx hb dX3_nearest_86 (by decide) ?_
                    refine lv_goto (tgt := 91) hx hb dX3_nearest_87 (by decide) ?_
                    refine lv_istore (lv' := [(7, .int (nI 1)), (8, .int (nI j)), (6, .int (nI i)), (5, .int (rI x)), (4, .int (pI b)), (0, .ref (q 0)), (1, .int x0), (2, .int x1), (3, .int x2)]) hx hb dX3_nearest_91 hl (by decide) rfl (fun ls hl => ?_)
                    refine lv_iinc (v := nI (j + 1)) (lv' := [(8, .int (nI (j + 1))), (7, .int (nI 1)), (6, .int (nI i)), (5, .int (rI x)), (4, .int (pI b)), (0, .ref (q 0)), (1, .int x0), (2, .int x1), (3, .int x2)]) hx hb dX3_nearest_93 hl (k := 1) rfl (nI_add _ 1) (by decide) rfl (fun ls hl => ?_)
                    refine lv_goto (tgt := 60) hx hb dX3_nearest_96 (by decide) ?_
                    exact ih60 (j + 1) 1 (by omega) (by omega) (by first | exact any_o hf h_71 | exact any_y hf h_71 (decide_eq_true h_83) | exact any_n hf h_71 (decide_eq_false h_83)) _ _ hP hD hS ls hl
                  · skip
                    refine lv_aload_n hx hb dX3_nearest_74 rfl (lv_at hl 5 rfl) ?_
                    refine va_get (D := D) (v := .ref (q 12)) hx hb hts hin_X3 hown hX.1 hP 0 rfl rfl 16 (by decide) hf_44 (fun _ h9 => h9) rfl dX3_nearest_75 ?_
                    refine lv_iload hx hb dX3_nearest_78 (lv_at hl 0 rfl) ?_
                    refine na_iald hx hb hX.1 hP 12 0 rfl rfl (by omega) (by decide) dX3_nearest_80 ?_
                    refine lv_iload hx hb dX3_nearest_81 (lv_at hl 2 rfl) ?_
                    refine na_icmp_ne (tgt := 90) hx hb (by omega) (by omega) dX3_nearest_83 (by decide) (fun h_83 => ?_) (fun h_83 => ?_)
                    · skip
                      refine lv_iconst (v := nI 0) hx hb dX3_nearest_90 (by decide) ?_
                      refine lv_istore (lv' := [(7, .int (nI 0)), (8, .int (nI j)), (6, .int (nI i)), (5, .int (rI x)), (4, .int (pI b)), (0, .ref (q 0)), (1, .int x0), (2, .int x1), (3, .int x2)]) hx hb dX3_nearest_91 hl (by decide) rfl (fun ls hl => ?_)
                      refine lv_iinc (v := nI (j + 1)) (lv' := [(8, .int (nI (j + 1))), (7, .int (nI 0)), (6, .int (nI i)), (5, .int (rI x)), (4, .int (pI b)), (0, .ref (q 0)), (1, .int x0), (2, .int x1), (3, .int x2)]) hx hb dX3_nearest_93 hl (k := 1) rfl (nI_add _ 1) (by decide) rfl (fun ls hl => ?_)
                      refine lv_goto (tgt := 60) hx hb dX3_nearest_96 (by decide) ?_
                      exact ih60 (j + 1) 0 (by omega) (by omega) (by first | exact any_o hf h_71 | exact any_y hf h_71 (decide_eq_true h_83) | exact any_n hf h_71 (decide_eq_false h_83)) _ _ hP hD hS ls hl
                    · skip
                      refine lv_iconst (v := nI 1) hx hb dX3_nearest_86 (by decide) ?_
                      refine lv_goto (tgt := 91) hx hb dX3_nearest_87 (by decide) ?_
                      refine lv_istore (lv' := [(7, .int (nI 1)), (8, .int (nI j)), (6, .int (nI i)), (5, .int (rI x)), (4, .int (pI b)), (0, .ref (q 0)), (1, .int x0), (2, .int x1), (3, .int x2)]) hx hb dX3_nearest_91 hl (by decide) rfl (fun ls hl => ?_)
                      refine lv_iinc (v := nI (j + 1)) (lv' := [(8, .int (nI (j + 1))), (7, .int (nI 1)), (6, .int (nI i)), (5, .int (rI x)), (4, .int (pI b)), (0, .ref (q 0)), (1, .int x0), (2, .int x1), (3, .int x2)]) hx hb dX3_nearest_93 hl (k := 1) rfl (nI_add _ 1) (by decide) rfl (fun ls hl => ?_)
                      refine lv_goto (tgt := 60) hx hb dX3_nearest_96 (by decide) ?_
                      exact ih60 (j + 1) 1 (by omega) (by omega) (by first | exact any_o hf h_71 | exact any_y hf h_71 (decide_eq_true h_83) | exact any_n hf h_71 (decide_eq_false h_83)) _ _ hP hD hS ls hl
            exact L60 (S 0 3 + 1) 0 0 (by omega) (by omega) rfl _ _ hP hD hS ls hl
      exact L45 (S 0 0 + 1) 0 0 1000000 (by omega) (by omega) rfl _ _ hP hD hS ls hl
    · exact absurd h_24 (by decide)

set_option maxHeartbeats 4000000 in
set_option maxRecDepth 100000 in
theorem k_X3_table (l : Launch) (D : va_G) (q : Nat → Nat) (k : Nat → ClassId) (S Z : Nat → Nat → Nat) (sz : Nat) (x0 : Int32) (x1 : Int32) (hB : Bd S) (hJ : Jn S) (hR : Rb (Z 1)) (hG : Gr S (2 * S 0 0)) (h4 : S 0 4 < 2 ^ 30) (h13 : ∀ i, S 13 i ≤ S 0 4) (hc3 : 0 < S 0 3 → 0 < S 0 4) (h12 : ∀ i, i < S 0 3 → S 12 i < S 0 0) : Met l yX3_table wsX3_table ({ frames := 6, cells := 0, slots := 0, locals := 148 } : Room) (va_Pc [.ref (q 0), .int x0, .int x1] (wB D k (wM q k S Z) sz)) (va_Qi (fun (r : Int32) (u : (Nat → Nat → Nat) × (Nat → Nat → Nat)) => (cdTb S x0 x1 = 0 → r = rI (secs S (S 11 0) 12 (S 12 (iN x0)) (S 12 (iN x1)))) ∧ u.1 = nS (cdTb S x0 x1) S (tbS S (iN x0)) ∧ u.2 0 0 = cdTb S x0 x1 ∧ Rb (u.2 1)) (fun u t => wE D (va_A (wM q k S Z) sz) (wM q k u.1 u.2) t) (va_A (wM q k S Z) sz)) 0 0 (va_A (wM q k S Z) sz) := by
  refine Met.ofW (cc := cX3_table) (maxL := 3) (ret := (some .int)) (by decide) rfl ?_
  intro p e s m args below meth c s₁ B hml hv
  obtain ⟨rfl, hsz, hP, hX, hD0⟩ := hv
  have hx := B.exec
  have hb := B.bytes
  have hr := B.returns
  have hts := atoms_spec (ws := wsX3_table) B.pre
  have hown : s.vm.findClass RX3 = some m.cls := findClass_of_methodNamed B.named
  have hlocks := B.notSynchronized
  subst hsz
  have hD := hD0.self (sz := s.heap.size)
  generalize hAe : va_A (wM q k S Z) s.heap.size = A at hD ⊢
  have hA : ∀ q : Nat, s.heap.size ≤ q → A q := fun q h => by rw [← hAe]; exact Or.inr h
  have hS : va_S A s.heap s.heap [] := va_S.rf
  have hP : va_P D vwCl (wM q k S Z) s.heap := hP
  have hf_44 := hts (.fieldLink RX3 44 "FloorGraphModel" "chargerAt" "[I") (by decide +kernel)
  have hf_47 := hts (.fieldLink RX3 47 "FloorGraphModel" "workedAt" "[I") (by decide +kernel)
  have hf_59 := hts (.fieldLink RX3 59 "FloorGraphModel" "code" "I") (by decide +kernel)
  have hf_70 := hts (.fieldLink RX3 70 "FloorGraphModel" "changes" "I") (by decide +kernel)
  have hf_92 := hts (.fieldLink RX3 92 "FloorGraphModel" "robots" "I") (by decide +kernel)
  have hf_138 := hts (.fieldLink RX3 138 "FloorGraphModel" "chargers" "I") (by decide +kernel)
  have hf_141 := hts (.fieldLink RX3 141 "FloorGraphModel" "worked" "I") (by decide +kernel)
  have hin_X3 : ∀ w ∈ u_ws RX3 TX3 24, w ∈ wsX3_table := by decide +kernel
  have f0 := hB.1
  have hl := lv_entry ([.ref (q 0), .int x0, .int x1]) (n := 3) (Nat.le_of_ble_eq_true rfl)
  rw [lg_entry_eq]
  generalize (lg_sl ([.ref (q 0), .int x0, .int x1]) ++ List.replicate (3 - (lg_sl ([.ref (q 0), .int x0, .int x1])).length) Slot.unset).toArray = ls at hl ⊢
  have hl : lv_has ls 3 [(0, .ref (q 0)), (1, .int x0), (2, .int x1)] := hl
  refine lv_aload_n hx hb dX3_table_0 rfl (lv_at hl 0 rfl) ?_
  refine lv_aload_n hx hb dX3_table_1 rfl (lv_at hl 0 rfl) ?_
  refine va_get (D := D) (v := .int (nI (S 0 2))) hx hb hts hin_X3 hown hX.1 hP 0 rfl rfl 13 (by decide) hf_92 (fun _ h9 => h9) rfl dX3_table_2 ?_
  refine na_if_ne (tgt := 12) hx hb (by omega) dX3_table_5 (by decide) (fun h_5 => ?_) (fun h_5 => ?_)
  · skip
    refine lv_iload_n hx hb dX3_table_12 rfl (lv_at hl 1 rfl) ?_
    refine lv_iconst (v := nI 0) hx hb dX3_table_13 (by decide) ?_
    refine lv_aload_n hx hb dX3_table_14 rfl (lv_at hl 0 rfl) ?_
    refine va_get (D := D) (v := .int (nI (S 0 3))) hx hb hts hin_X3 hown hX.1 hP 0 rfl rfl 15 (by decide) hf_138 (fun _ h9 => h9) rfl dX3_table_15 ?_
    refine lv_iconst (v := nI 1) hx hb dX3_table_18 (by decide) ?_
    refine lv_isub hx hb dX3_table_19 ?_
    refine na_as (y := pI (S 0 3)) rfl ?_
    refine rd_S (As := [.int x0, .int (nI 0), .int (pI (S 0 3))]) (rest := [.ref (q 0)]) ⟨hx, hb, hml, hown, hts⟩ (k_X3_in l x0 (nI 0) (pI (S 0 3)) ) (va_cwS 3 hts gX3_table_X3_in rfl rfl rfl (by decide +kernel) ⟨by decide, by decide⟩) rfl hl.1 rfl (Nat.le_of_ble_eq_true rfl) dX3_table_20 ⟨Nat.zero_le _, Nat.zero_le _⟩ ?_
    refine na_if_eq (tgt := 40) hx hb (bN_lt _) dX3_table_23 (by decide) (fun h_23 => ?_) (fun h_23 => ?_)
    · skip
      refine lv_iconst (v := nI 2) hx hb dX3_table_40 (by decide) ?_
      refine lv_goto (tgt := 45) hx hb dX3_table_41 (by decide) ?_
      refine va_put (D := D) (v := .int (nI 2)) (ty := .int) hx hb hts hin_X3 tyX3 tyX3_ok nmX3 hown hX.1 hP hD hS 0 rfl rfl 0 (by decide) hf_59 (fun _ h9 => h9) rfl (by decide +kernel) rfl rfl (Nat.le_of_ble_eq_true rfl) dX3_table_45 (fun H locs hP hD hS => ?_)
      have hP : va_P D vwCl (wM q k S (up2 Z 0 0 2)) H := sP_M0_0 hP
      have hD : va_D A (wM q k S (up2 Z 0 0 2)) := sD_M0_0 hD
      refine lv_aload_n hx hb dX3_table_48 rfl (lv_at hl 0 rfl) ?_
      refine va_get (D := D) (v := .int (nI 2)) hx hb hts hin_X3 hown hX.1 hP 0 rfl rfl 0 (by decide) hf_59 (fun _ h9 => h9) rfl dX3_table_49 ?_
      refine na_if_le (tgt := 57) hx hb (by omega) dX3_table_52 (by decide) (fun h_52 => ?_) (fun h_52 => ?_)
      · exact absurd h_52 (by decide)
      · skip
        refine lv_iconst (v := nI 0) hx hb dX3_table_55 (by decide) ?_
        exact W.iret (v := nI 0) hx hb hr (fun t ht hW => ⟨⟨_, (S, (up2 Z 0 0 2)), rfl, (have hc : cdTb S x0 x1 = 2 := cdTb_2 h_5 (fun q => by first | exact inp_f (by omega) h_23 q.1 | exact inp_f (by omega) h_37 q.2); ⟨fun q => absurd (hc.symm.trans q) (by decide), (nS_n (by omega)).symm, by rw [hc]; rfl, hR⟩), by rw [ht]; exact hP, hD⟩, hS.F ht⟩) hS.2.2 dX3_table_56
    · skip
      refine lv_iload_n hx hb dX3_table_26 rfl (lv_at hl 2 rfl) ?_
      refine lv_iconst (v := nI 0) hx hb dX3_table_27 (by decide) ?_
      refine lv_aload_n hx hb dX3_table_28 rfl (lv_at hl 0 rfl) ?_
      refine va_get (D := D) (v := .int (nI (S 0 3))) hx hb hts hin_X3 hown hX.1 hP 0 rfl rfl 15 (by decide) hf_138 (fun _ h9 => h9) rfl dX3_table_29 ?_
      refine lv_iconst (v := nI 1) hx hb dX3_table_32 (by decide) ?_
      refine lv_isub hx hb dX3_table_33 ?_
      refine na_as (y := pI (S 0 3)) rfl ?_
      refine rd_S (As := [.int x1, .int (nI 0), .int (pI (S 0 3))]) (rest := [.ref (q 0)]) ⟨hx, hb, hml, hown, hts⟩ (k_X3_in l x1 (nI 0) (pI (S 0 3)) ) (va_cwS 3 hts gX3_table_X3_in rfl rfl rfl (by decide +kernel) ⟨by decide, by decide⟩) rfl hl.1 rfl (Nat.le_of_ble_eq_true rfl) dX3_table_34 ⟨Nat.zero_le _, Nat.zero_le _⟩ ?_
      refine na_if_ne (tgt := 44) hx hb (bN_lt _) dX3_table_37 (by decide) (fun h_37 => ?_) (fun h_37 => ?_)
      · skip
        refine lv_iconst (v := nI 0) hx hb dX3_table_44 (by decide) ?_
        refine va_put (D := D) (v := .int (nI 0)) (ty := .int) hx hb hts hin_X3 tyX3 tyX3_ok nmX3 hown hX.1 hP hD hS 0 rfl rfl 0 (by decide) hf_59 (fun _ h9 => h9) rfl (by decide +kernel) rfl rfl (Nat.le_of_ble_eq_true rfl) dX3_table_45 (fun H locs hP hD hS => ?_)
        have hP : va_P D vwCl (wM q k S (up2 Z 0 0 0)) H := sP_M0_0 hP
        have hD : va_D A (wM q k S (up2 Z 0 0 0)) := sD_M0_0 hD
        refine lv_aload_n hx hb dX3_table_48 rfl (lv_at hl 0 rfl) ?_
        refine va_get (D := D) (v := .int (nI 0)) hx hb hts hin_X3 hown hX.1 hP 0 rfl rfl 0 (by decide) hf_59 (fun _ h9 => h9) rfl dX3_table_49 ?_
        refine na_if_le (tgt := 57) hx hb (by omega) dX3_table_52 (by decide) (fun h_52 => ?_) (fun h_52 => ?_)
        · skip
          have i0 := inp_t (by omega) h_23
          have i1 := inp_t (by omega) h_37
          have j0 := iN_toInt (x := x0) (by omega)
          have j1 := iN_toInt (x := x1) (by omega)
          have c0 : cdTb S x0 x1 = 0 := cdTb_0 h_5 ⟨i0, i1⟩
          have g13 := h13 (iN x0)
          have k0 := h12 (iN x0) (by omega)
          have k1 := h12 (iN x1) (by omega)
          have z13 := zI_toInt (v := S 13 (iN x0)) (by omega)
          have z4 := nI_toInt (n := S 0 4) (by omega)
          have hc4 := hc3 (by omega)
          refine lv_aload_n hx hb dX3_table_57 rfl (lv_at hl 0 rfl) ?_
          refine va_get (D := D) (v := .ref (q 13)) hx hb hts hin_X3 hown hX.1 hP 0 rfl rfl 18 (by decide) hf_47 (fun _ h9 => h9) rfl dX3_table_58 ?_
          refine lv_iload_n hx hb dX3_table_61 rfl (lv_at hl 1 rfl) ?_
          refine na_as (y := nI (iN x0)) (iN_eq (by omega)) ?_
          refine na_iald hx hb hX.1 hP 13 0 rfl rfl (by omega) (by decide) dX3_table_62 ?_
          refine lv_aload_n hx hb dX3_table_63 rfl (lv_at hl 0 rfl) ?_
          refine va_get (D := D) (v := .int (nI (S 0 4))) hx hb hts hin_X3 hown hX.1 hP 0 rfl rfl 17 (by decide) hf_70 (fun _ h9 => h9) rfl dX3_table_64 ?_
          refine nr_icmp_eq (tgt := 90) hx hb dX3_table_67 (by decide) (fun h_67 => ?_) (fun h_67 => ?_)
          · skip
            refine lv_aload_n hx hb dX3_table_90 rfl (lv_at hl 0 rfl) ?_
            refine lv_iconst (v := nI 0) hx hb dX3_table_91 (by decide) ?_
            refine lv_aload_n hx hb dX3_table_92 rfl (lv_at hl 0 rfl) ?_
            refine va_get (D := D) (v := .ref (q 12)) hx hb hts hin_X3 hown hX.1 hP 0 rfl rfl 16 (by decide) hf_44 (fun _ h9 => h9) rfl dX3_table_93 ?_
            refine lv_iload_n hx hb dX3_table_96 rfl (lv_at hl 1 rfl) ?_
            refine na_as (y := nI (iN x0)) (iN_eq (by omega)) ?_
            refine na_iald hx hb hX.1 hP 12 0 rfl rfl (by omega) (by decide) dX3_table_97 ?_
            refine lv_aload_n hx hb dX3_table_98 rfl (lv_at hl 0 rfl) ?_
            refine va_get (D := D) (v := .ref (q 12)) hx hb hts hin_X3 hown hX.1 hP 0 rfl rfl 16 (by decide) hf_44 (fun _ h9 => h9) rfl dX3_table_99 ?_
            refine lv_iload_n hx hb dX3_table_102 rfl (lv_at hl 2 rfl) ?_
            refine na_as (y := nI (iN x1)) (iN_eq (by omega)) ?_
            refine na_iald hx hb hX.1 hP 12 0 rfl rfl (by omega) (by decide) dX3_table_103 ?_
            refine lv_bipush (v := nI 12) hx hb dX3_table_104 (by decide) ?_
            refine wr_Vi (As := [.int (nI 0), .int (nI (S 12 (iN x0))), .int (nI (S 12 (iN x1))), .int (nI 12)]) (rest := []) ⟨hx, hb, hml, hown, hts⟩ (k_X3_least l D q k S (up2 Z 0 0 0) _ 0 (S 12 (iN x0)) (S 12 (iN x1)) 12 hB hJ hR hG (by omega) k0 k1 (by omega)) (cwV 4 hts gX3_table_X3_least rfl rfl rfl (by decide +kernel) ⟨by decide, by decide⟩) hX hP hD hS hA (q0 := 0) rfl rfl rfl hl.1 rfl (Nat.le_of_ble_eq_true rfl) dX3_table_106 ⟨Nat.le_of_ble_eq_true rfl, Nat.le_of_ble_eq_true rfl⟩ (fun r_1 u_1 H locs hw_1 hP hD hS => ?_)
            obtain ⟨S_1, Z_1⟩ := u_1
            obtain ⟨e1, e2, e3⟩ := hw_1
            dsimp only at e2 e3 hP hD
            rw [e2, e3] at hP hD
            subst e1
            have hP : va_P D vwCl (wM q k S (upR (up2 Z 0 0 0) 1 (itr S (opn S (S 11 0) 12) (rs S (S 12 (iN x0)) ((up2 Z 0 0 0) 1)) 40))) H := hP
            have hD : va_D A (wM q k S (upR (up2 Z 0 0 0) 1 (itr S (opn S (S 11 0) 12) (rs S (S 12 (iN x0)) ((up2 Z 0 0 0) 1)) 40))) := hD
            exact W.iret (v := rI (secs S (S 11 0) 12 (S 12 (iN x0)) (S 12 (iN x1)))) hx hb hr (fun t ht hW => ⟨⟨_, (S, (upR (up2 Z 0 0 0) 1 (itr S (opn S (S 11 0) 12) (rs S (S 12 (iN x0)) ((up2 Z 0 0 0) 1)) 40))), rfl, ⟨fun _ => rfl, by rw [nS_0 c0, tbS, if_pos (by rw [z13, z4] at h_67; split at h_67 <;> omega)], by rw [c0]; rfl, by dsimp only; rw [upR_same]; exact Rb_fin hG hR⟩, by rw [ht]; exact hP, hD⟩, hS.F ht⟩) hS.2.2 dX3_table_109
          · skip
            refine lv_aload_n hx hb dX3_table_70 rfl (lv_at hl 0 rfl) ?_
            refine va_get (D := D) (v := .ref (q 13)) hx hb hts hin_X3 hown hX.1 hP 0 rfl rfl 18 (by decide) hf_47 (fun _ h9 => h9) rfl dX3_table_71 ?_
            refine lv_iload_n hx hb dX3_table_74 rfl (lv_at hl 1 rfl) ?_
            refine na_as (y := nI (iN x0)) (iN_eq (by omega)) ?_
            refine lv_aload_n hx hb dX3_table_75 rfl (lv_at hl 0 rfl) ?_
            refine va_get (D := D) (v := .int (nI (S 0 4))) hx hb hts hin_X3 hown hX.1 hP 0 rfl rfl 17 (by decide) hf_70 (fun _ h9 => h9) rfl dX3_table_76 ?_
            refine na_as (y := zI (S 0 4)) (zI_pos hc4).symm ?_
            refine na_iast hx hb hX.1 hP hD hS 13 0 rfl rfl (by omega) (by decide) (upd_enc zI _ _ _) dX3_table_79 (fun H locs hP hD hS => ?_)
            have hP : va_P D vwCl (wM q k (up2 S 13 (iN x0) (S 0 4)) (up2 Z 0 0 0)) H := sP_M13 hP
            have hD : va_D A (wM q k (up2 S 13 (iN x0) (S 0 4)) (up2 Z 0 0 0)) := sD_M13 hD
            refine lv_aload_n hx hb dX3_table_80 rfl (lv_at hl 0 rfl) ?_
            refine lv_dup hx hb dX3_table_81 rfl ?_
            refine va_get (D := D) (v := .int (nI (S 0 5))) hx hb hts hin_X3 hown hX.1 hP 0 rfl rfl 19 (by decide) hf_141 (fun _ h9 => h9) rfl dX3_table_82 ?_
            refine lv_iconst (v := nI 1) hx hb dX3_table_85 (by decide) ?_
            refine na_iadd hx hb dX3_table_86 ?_
            refine va_put (D := D) (v := .int (nI ((S 0 5) + 1))) (ty := .int) hx hb hts hin_X3 tyX3 tyX3_ok nmX3 hown hX.1 hP hD hS 0 rfl rfl 19 (by decide) hf_141 (fun _ h9 => h9) rfl (by decide +kernel) rfl rfl (Nat.le_of_ble_eq_true rfl) dX3_table_87 (fun H locs hP hD hS => ?_)
            have hP : va_P D vwCl (wM q k (up2 (up2 S 13 (iN x0) (S 0 4)) 0 5 ((S 0 5) + 1)) (up2 Z 0 0 0)) H := sP_M0_19 hP
            have hD : va_D A (wM q k (up2 (up2 S 13 (iN x0) (S 0 4)) 0 5 ((S 0 5) + 1)) (up2 Z 0 0 0)) := sD_M0_19 hD
            refine lv_aload_n hx hb dX3_table_90 rfl (lv_at hl 0 rfl) ?_
            refine lv_iconst (v := nI 0) hx hb dX3_table_91 (by decide) ?_
            refine lv_aload_n hx hb dX3_table_92 rfl (lv_at hl 0 rfl) ?_
            refine va_get (D := D) (v := .ref (q 12)) hx hb hts hin_X3 hown hX.1 hP 0 rfl rfl 16 (by decide) hf_44 (fun _ h9 => h9) rfl dX3_table_93 ?_
            refine lv_iload_n hx hb dX3_table_96 rfl (lv_at hl 1 rfl) ?_
            refine na_as (y := nI (iN x0)) (iN_eq (by omega)) ?_
            refine na_iald hx hb hX.1 hP 12 0 rfl rfl (by omega) (by decide) dX3_table_97 ?_
            refine na_as (y := nI (S 12 (iN x0))) rfl ?_
            refine lv_aload_n hx hb dX3_table_98 rfl (lv_at hl 0 rfl) ?_
            refine va_get (D := D) (v := .ref (q 12)) hx hb hts hin_X3 hown hX.1 hP 0 rfl rfl 16 (by decide) hf_44 (fun _ h9 => h9) rfl dX3_table_99 ?_
            refine lv_iload_n hx hb dX3_table_102 rfl (lv_at hl 2 rfl) ?_
            refine na_as (y := nI (iN x1)) (iN_eq (by omega)) ?_
            refine na_iald hx hb hX.1 hP 12 0 rfl rfl (by omega) (by decide) dX3_table_103 ?_
            refine na_as (y := nI (S 12 (iN x1))) rfl ?_
            refine lv_bipush (v := nI 12) hx hb dX3_table_104 (by decide) ?_
            refine wr_Vi (As := [.int (nI 0), .int (nI (S 12 (iN x0))), .int (nI (S 12 (iN x1))), .int (nI 12)]) (rest := []) ⟨hx, hb, hml, hown, hts⟩ (k_X3_least l D q k (up2 (up2 S 13 (iN x0) (S 0 4)) 0 5 ((S 0 5) + 1)) (up2 Z 0 0 0) _ 0 (S 12 (iN x0)) (S 12 (iN x1)) 12 hB hJ hR hG (by omega) k0 k1 (by omega)) (cwV 4 hts gX3_table_X3_least rfl rfl rfl (by decide +kernel) ⟨by decide, by decide⟩) hX hP hD hS hA (q0 := 0) rfl rfl rfl hl.1 rfl (Nat.le_of_ble_eq_true rfl) dX3_table_106 ⟨Nat.le_of_ble_eq_true rfl, Nat.le_of_ble_eq_true rfl⟩ (fun r_2 u_2 H locs hw_2 hP hD hS => ?_)
            obtain ⟨S_2, Z_2⟩ := u_2
            obtain ⟨e1, e2, e3⟩ := hw_2
            dsimp only at e2 e3 hP hD
            rw [e2, e3] at hP hD
            subst e1
            have hP : va_P D vwCl (wM q k (up2 (up2 S 13 (iN x0) (S 0 4)) 0 5 ((S 0 5) + 1)) (upR (up2 Z 0 0 0) 1 (itr (up2 (up2 S 13 (iN x0) (S 0 4)) 0 5 ((S 0 5) + 1)) (opn (up2 (up2 S 13 (iN x0) (S 0 4)) 0 5 ((S 0 5) + 1)) ((up2 (up2 S 13 (iN x0) (S 0 4)) 0 5 ((S 0 5) + 1)) 11 0) 12) (rs (up2 (up2 S 13 (iN x0) (S 0 4)) 0 5 ((S 0 5) + 1)) (S 12 (iN x0)) ((up2 Z 0 0 0) 1)) 40))) H := hP
            have hD : va_D A (wM q k (up2 (up2 S 13 (iN x0) (S 0 4)) 0 5 ((S 0 5) + 1)) (upR (up2 Z 0 0 0) 1 (itr (up2 (up2 S 13 (iN x0) (S 0 4)) 0 5 ((S 0 5) + 1)) (opn (up2 (up2 S 13 (iN x0) (S 0 4)) 0 5 ((S 0 5) + 1)) ((up2 (up2 S 13 (iN x0) (S 0 4)) 0 5 ((S 0 5) + 1)) 11 0) 12) (rs (up2 (up2 S 13 (iN x0) (S 0 4)) 0 5 ((S 0 5) + 1)) (S 12 (iN x0)) ((up2 Z 0 0 0) 1)) 40))) := hD
            exact W.iret (v := rI (secs (up2 (up2 S 13 (iN x0) (S 0 4)) 0 5 ((S 0 5) + 1)) ((up2 (up2 S 13 (iN x0) (S 0 4)) 0 5 ((S 0 5) + 1)) 11 0) 12 (S 12 (iN x0)) (S 12 (iN x1)))) hx hb hr (fun t ht hW => ⟨⟨_, ((up2 (up2 S 13 (iN x0) (S 0 4)) 0 5 ((S 0 5) + 1)), (upR (up2 Z 0 0 0) 1 (itr (up2 (up2 S 13 (iN x0) (S 0 4)) 0 5 ((S 0 5) + 1)) (opn (up2 (up2 S 13 (iN x0) (S 0 4)) 0 5 ((S 0 5) + 1)) ((up2 (up2 S 13 (iN x0) (S 0 4)) 0 5 ((S 0 5) + 1)) 11 0) 12) (rs (up2 (up2 S 13 (iN x0) (S 0 4)) 0 5 ((S 0 5) + 1)) (S 12 (iN x0)) ((up2 Z 0 0 0) 1)) 40))), rfl, ⟨fun _ => congrArg rI (by rw [secs_S Alk_tb]; rfl), by rw [nS_0 c0, tbS, if_neg (by rw [z13, z4] at h_67; split at h_67 <;> omega)], by rw [c0]; rfl, by dsimp only; rw [upR_same]; exact Rb_fin (S := up2 (up2 S 13 (iN x0) (S 0 4)) 0 5 (S 0 5 + 1)) hG hR⟩, by rw [ht]; exact hP, hD⟩, hS.F ht⟩) hS.2.2 dX3_table_109
        · exact absurd h_52 (by decide)
      · skip
        refine lv_iconst (v := nI 2) hx hb dX3_table_40 (by decide) ?_
        refine lv_goto (tgt := 45) hx hb dX3_table_41 (by decide) ?_
        refine va_put (D := D) (v := .int (nI 2)) (ty := .int) hx hb hts hin_X3 tyX3 tyX3_ok nmX3 hown hX.1 hP hD hS 0 rfl rfl 0 (by decide) hf_59 (fun _ h9 => h9) rfl (by decide +kernel) rfl rfl (Nat.le_of_ble_eq_true rfl) dX3_table_45 (fun H locs hP hD hS => ?_)
        have hP : va_P D vwCl (wM q k S (up2 Z 0 0 2)) H := sP_M0_0 hP
        have hD : va_D A (wM q k S (up2 Z 0 0 2)) := sD_M0_0 hD
        refine lv_aload_n hx hb dX3_table_48 rfl (lv_at hl 0 rfl) ?_
        refine va_get (D := D) (v := .int (nI 2)) hx hb hts hin_X3 hown hX.1 hP 0 rfl rfl 0 (by decide) hf_59 (fun _ h9 => h9) rfl dX3_table_49 ?_
        refine na_if_le (tgt := 57) hx hb (by omega) dX3_table_52 (by decide) (fun h_52 => ?_) (fun h_52 => ?_)
        · exact absurd h_52 (by decide)
        · skip
          refine lv_iconst (v := nI 0) hx hb dX3_table_55 (by decide) ?_
          exact W.iret (v := nI 0) hx hb hr (fun t ht hW => ⟨⟨_, (S, (up2 Z 0 0 2)), rfl, (have hc : cdTb S x0 x1 = 2 := cdTb_2 h_5 (fun q => by first | exact inp_f (by omega) h_23 q.1 | exact inp_f (by omega) h_37 q.2); ⟨fun q => absurd (hc.symm.trans q) (by decide), (nS_n (by omega)).symm, by rw [hc]; rfl, hR⟩), by rw [ht]; exact hP, hD⟩, hS.F ht⟩) hS.2.2 dX3_table_56
  · skip
    refine lv_iconst (v := nI 1) hx hb dX3_table_8 (by decide) ?_
    refine lv_goto (tgt := 45) hx hb dX3_table_9 (by decide) ?_
    refine va_put (D := D) (v := .int (nI 1)) (ty := .int) hx hb hts hin_X3 tyX3 tyX3_ok nmX3 hown hX.1 hP hD hS 0 rfl rfl 0 (by decide) hf_59 (fun _ h9 => h9) rfl (by decide +kernel) rfl rfl (Nat.le_of_ble_eq_true rfl) dX3_table_45 (fun H locs hP hD hS => ?_)
    have hP : va_P D vwCl (wM q k S (up2 Z 0 0 1)) H := sP_M0_0 hP
    have hD : va_D A (wM q k S (up2 Z 0 0 1)) := sD_M0_0 hD
    refine lv_aload_n hx hb dX3_table_48 rfl (lv_at hl 0 rfl) ?_
    refine va_get (D := D) (v := .int (nI 1)) hx hb hts hin_X3 hown hX.1 hP 0 rfl rfl 0 (by decide) hf_59 (fun _ h9 => h9) rfl dX3_table_49 ?_
    refine na_if_le (tgt := 57) hx hb (by omega) dX3_table_52 (by decide) (fun h_52 => ?_) (fun h_52 => ?_)
    · exact absurd h_52 (by decide)
    · skip
      refine lv_iconst (v := nI 0) hx hb dX3_table_55 (by decide) ?_
      exact W.iret (v := nI 0) hx hb hr (fun t ht hW => ⟨⟨_, (S, (up2 Z 0 0 1)), rfl, (have hc : cdTb S x0 x1 = 1 := cdTb_1 h_5; ⟨fun q => absurd (hc.symm.trans q) (by decide), (nS_n (by omega)).symm, by rw [hc]; rfl, hR⟩), by rw [ht]; exact hP, hD⟩, hS.F ht⟩) hS.2.2 dX3_table_56
