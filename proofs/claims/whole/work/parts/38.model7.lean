set_option maxHeartbeats 4000000 in
set_option maxRecDepth 100000 in
theorem k_X3_way (l : Launch) (D : va_G) (q : Nat → Nat) (k : Nat → ClassId) (S Z : Nat → Nat → Nat) (sz : Nat) (x0 : Int32) (x1 : Int32) (x2 : Int32) (x3 : Int32) (hB : Bd S) (hJ : Jn S) (hR : Rb (Z 1)) (hGw : Gw S) : Met l yX3_way wsX3_way ({ frames := 6, cells := 0, slots := 0, locals := 148 } : Room) (va_Pc [.ref (q 0), .int x0, .int x1, .int x2, .int x3] (wB D k (wM q k S Z) sz)) (va_Qi (fun (r : Int32) (u : (Nat → Nat → Nat) × (Nat → Nat → Nat)) => (cd1 (okD S x0 x1 x2 x3) = 0 → r = rI (secs S (S 11 (iN x0)) (iN x3) (iN x1) (iN x2))) ∧ u.1 = nS (cd1 (okD S x0 x1 x2 x3)) S (waS S (S 11 (iN x0)) (iN x3) (iN x1) (iN x2)) ∧ u.2 0 0 = cd1 (okD S x0 x1 x2 x3) ∧ Rb (u.2 1)) (fun u t => wE D (va_A (wM q k S Z) sz) (wM q k u.1 u.2) t) (va_A (wM q k S Z) sz)) 0 0 (va_A (wM q k S Z) sz) := by
  refine Met.ofW (cc := cX3_way) (maxL := 7) (ret := (some .int)) (by decide) rfl ?_
  intro p e s m args below meth c s₁ B hml hv
  obtain ⟨rfl, hsz, hP, hX, hD0⟩ := hv
  have hx := B.exec
  have hb := B.bytes
  have hr := B.returns
  have hts := atoms_spec (ws := wsX3_way) B.pre
  have hown : s.vm.findClass RX3 = some m.cls := findClass_of_methodNamed B.named
  have hlocks := B.notSynchronized
  subst hsz
  have hD := hD0.self (sz := s.heap.size)
  generalize hAe : va_A (wM q k S Z) s.heap.size = A at hD ⊢
  have hA : ∀ q : Nat, s.heap.size ≤ q → A q := fun q h => by rw [← hAe]; exact Or.inr h
  have hS : va_S A s.heap s.heap [] := va_S.rf
  have hP : va_P D vwCl (wM q k S Z) s.heap := hP
  have hf_50 := hts (.fieldLink RX3 50 "FloorGraphModel" "reached" "[I") (by decide +kernel)
  have hf_53 := hts (.fieldLink RX3 53 "FloorGraphModel" "steps" "[I") (by decide +kernel)
  have hf_59 := hts (.fieldLink RX3 59 "FloorGraphModel" "code" "I") (by decide +kernel)
  have hf_129 := hts (.fieldLink RX3 129 "FloorGraphModel" "stepCount" "I") (by decide +kernel)
  have hin_X3 : ∀ w ∈ u_ws RX3 TX3 24, w ∈ wsX3_way := by decide +kernel
  have f0 := hB.1
  have hG := hGw.1
  have hl := lv_entry ([.ref (q 0), .int x0, .int x1, .int x2, .int x3]) (n := 7) (Nat.le_of_ble_eq_true rfl)
  rw [lg_entry_eq]
  generalize (lg_sl ([.ref (q 0), .int x0, .int x1, .int x2, .int x3]) ++ List.replicate (7 - (lg_sl ([.ref (q 0), .int x0, .int x1, .int x2, .int x3])).length) Slot.unset).toArray = ls at hl ⊢
  have hl : lv_has ls 7 [(0, .ref (q 0)), (1, .int x0), (2, .int x1), (3, .int x2), (4, .int x3)] := hl
  refine lv_aload_n hx hb dX3_way_0 rfl (lv_at hl 0 rfl) ?_
  refine lv_aload_n hx hb dX3_way_1 rfl (lv_at hl 0 rfl) ?_
  refine lv_iload_n hx hb dX3_way_2 rfl (lv_at hl 1 rfl) ?_
  refine lv_iload_n hx hb dX3_way_3 rfl (lv_at hl 2 rfl) ?_
  refine lv_iload_n hx hb dX3_way_4 rfl (lv_at hl 3 rfl) ?_
  refine lv_iload hx hb dX3_way_5 (lv_at hl 4 rfl) ?_
  refine rd_V (As := [.int x0, .int x1, .int x2, .int x3]) (rest := [.ref (q 0)]) ⟨hx, hb, hml, hown, hts⟩ (k_X3_isDrive l D q k S Z x0 x1 x2 x3 hB) (cwV 4 hts gX3_way_X3_isDrive rfl rfl rfl (by decide +kernel) ⟨by decide, by decide⟩) hX hP (q0 := 0) rfl rfl rfl hl.1 rfl (Nat.le_of_ble_eq_true rfl) dX3_way_7 ⟨Nat.zero_le _, Nat.zero_le _⟩ ?_
  refine na_if_eq (tgt := 17) hx hb (bN_lt _) dX3_way_10 (by decide) (fun h_10 => ?_) (fun h_10 => ?_)
  · skip
    refine lv_iconst (v := nI 1) hx hb dX3_way_17 (by decide) ?_
    refine va_put (D := D) (v := .int (nI 1)) (ty := .int) hx hb hts hin_X3 tyX3 tyX3_ok nmX3 hown hX.1 hP hD hS 0 rfl rfl 0 (by decide) hf_59 (fun _ h9 => h9) rfl (by decide +kernel) rfl rfl (Nat.le_of_ble_eq_true rfl) dX3_way_18 (fun H locs hP hD hS => ?_)
    have hP : va_P D vwCl (wM q k S (up2 Z 0 0 1)) H := sP_M0_0 hP
    have hD : va_D A (wM q k S (up2 Z 0 0 1)) := sD_M0_0 hD
    refine lv_aload_n hx hb dX3_way_21 rfl (lv_at hl 0 rfl) ?_
    refine va_get (D := D) (v := .int (nI 1)) hx hb hts hin_X3 hown hX.1 hP 0 rfl rfl 0 (by decide) hf_59 (fun _ h9 => h9) rfl dX3_way_22 ?_
    refine na_if_le (tgt := 30) hx hb (by omega) dX3_way_25 (by decide) (fun h_25 => ?_) (fun h_25 => ?_)
    · exact absurd h_25 (by decide)
    · skip
      refine lv_iconst (v := nI 0) hx hb dX3_way_28 (by decide) ?_
      exact W.iret (v := nI 0) hx hb hr (fun t ht hW => ⟨⟨_, (S, (up2 Z 0 0 1)), rfl, (have hc : cd1 (okD S x0 x1 x2 x3) = 1 := cd1_1 (okD_f h_10); ⟨fun q => absurd (hc.symm.trans q) (by decide), (nS_n (by omega)).symm, by rw [hc]; rfl, hR⟩), by rw [ht]; exact hP, hD⟩, hS.F ht⟩) hS.2.2 dX3_way_29
  · skip
    refine lv_iconst (v := nI 0) hx hb dX3_way_13 (by decide) ?_
    refine lv_goto (tgt := 18) hx hb dX3_way_14 (by decide) ?_
    refine va_put (D := D) (v := .int (nI 0)) (ty := .int) hx hb hts hin_X3 tyX3 tyX3_ok nmX3 hown hX.1 hP hD hS 0 rfl rfl 0 (by decide) hf_59 (fun _ h9 => h9) rfl (by decide +kernel) rfl rfl (Nat.le_of_ble_eq_true rfl) dX3_way_18 (fun H locs hP hD hS => ?_)
    have hP : va_P D vwCl (wM q k S (up2 Z 0 0 0)) H := sP_M0_0 hP
    have hD : va_D A (wM q k S (up2 Z 0 0 0)) := sD_M0_0 hD
    refine lv_aload_n hx hb dX3_way_21 rfl (lv_at hl 0 rfl) ?_
    refine va_get (D := D) (v := .int (nI 0)) hx hb hts hin_X3 hown hX.1 hP 0 rfl rfl 0 (by decide) hf_59 (fun _ h9 => h9) rfl dX3_way_22 ?_
    refine na_if_le (tgt := 30) hx hb (by omega) dX3_way_25 (by decide) (fun h_25 => ?_) (fun h_25 => ?_)
    · skip
      have i0 := okD_t h_10
      have j0 := iN_toInt (x := x0) i0.1.1
      have j1 := iN_toInt (x := x1) i0.2.1.1
      have j2 := iN_toInt (x := x2) i0.2.2.1.1
      have j3 := iN_toInt (x := x3) i0.2.2.2.1
      have l1 := i0.2.1.lt
      have l2 := i0.2.2.1.lt
      have l0 := i0.1.2
      have l3 := i0.2.2.2.2
      have c0 : cd1 (okD S x0 x1 x2 x3) = 0 := cd1_0 i0
      refine lv_aload_n hx hb dX3_way_30 rfl (lv_at hl 0 rfl) ?_
      refine lv_iload_n hx hb dX3_way_31 rfl (lv_at hl 1 rfl) ?_
      refine na_as (y := nI (iN x0)) (iN_eq i0.1.1) ?_
      refine lv_iload_n hx hb dX3_way_32 rfl (lv_at hl 2 rfl) ?_
      refine na_as (y := nI (iN x1)) (iN_eq i0.2.1.1) ?_
      refine lv_iload_n hx hb dX3_way_33 rfl (lv_at hl 3 rfl) ?_
      refine na_as (y := nI (iN x2)) (iN_eq i0.2.2.1.1) ?_
      refine lv_iload hx hb dX3_way_34 (lv_at hl 4 rfl) ?_
      refine na_as (y := nI (iN x3)) (iN_eq i0.2.2.2.1) ?_
      refine wr_Vi (As := [.int (nI (iN x0)), .int (nI (iN x1)), .int (nI (iN x2)), .int (nI (iN x3))]) (rest := []) ⟨hx, hb, hml, hown, hts⟩ (k_X3_least l D q k S (up2 Z 0 0 0) _ (iN x0) (iN x1) (iN x2) (iN x3) hB hJ hR hG (by omega) l1 l2 (by omega)) (cwV 4 hts gX3_way_X3_least rfl rfl rfl (by decide +kernel) ⟨by decide, by decide⟩) hX hP hD hS hA (q0 := 0) rfl rfl rfl hl.1 rfl (Nat.le_of_ble_eq_true rfl) dX3_way_36 ⟨Nat.le_of_ble_eq_true rfl, Nat.le_of_ble_eq_true rfl⟩ (fun r_1 u_1 H locs hw_1 hP hD hS => ?_)
      obtain ⟨S_1, Z_1⟩ := u_1
      obtain ⟨e1, e2, e3⟩ := hw_1
      dsimp only at e2 e3 hP hD
      rw [e2, e3] at hP hD
      subst e1
      have hP : va_P D vwCl (wM q k S (upR (up2 Z 0 0 0) 1 (itr S (opn S (S 11 (iN x0)) (iN x3)) (rs S (iN x1) ((up2 Z 0 0 0) 1)) 40))) H := hP
      have hD : va_D A (wM q k S (upR (up2 Z 0 0 0) 1 (itr S (opn S (S 11 (iN x0)) (iN x3)) (rs S (iN x1) ((up2 Z 0 0 0) 1)) 40))) := hD
      refine lv_istore (lv' := [(5, .int (rI (secs S (S 11 (iN x0)) (iN x3) (iN x1) (iN x2)))), (0, .ref (q 0)), (1, .int x0), (2, .int x1), (3, .int x2), (4, .int x3)]) hx hb dX3_way_39 hl (by decide) rfl (fun ls hl => ?_)
      obtain ⟨rr, hrr⟩ : ∃ x, x = (itr S (opn S (S 11 (iN x0)) (iN x3)) (rs S (iN x1) (up2 Z 0 0 0 1)) 40) := ⟨_, rfl⟩
      have hF : Fx S (opn S (S 11 (iN x0)) (iN x3)) (iN x1) rr := by rw [hrr]; exact Fx_of hG (old := up2 Z 0 0 0 1) hR l1
      have hse : secs S (S 11 (iN x0)) (iN x3) (iN x1) (iN x2) = sTo S (opn S (S 11 (iN x0)) (iN x3)) rr (iN x1) (iN x2) := by rw [hrr]; exact (secs_m hG).symm
      have hZ1 : (upR (up2 Z 0 0 0) 1 (itr S (opn S (S 11 (iN x0)) (iN x3)) (rs S (iN x1) (up2 Z 0 0 0 1)) 40)) 1 = rr := by rw [upR_same, hrr]
      have hws : up2 (upR S 14 (wayE S (opn S (S 11 (iN x0)) (iN x3)) rr (iN x1) (iN x2)).1) 0 6 (wayE S (opn S (S 11 (iN x0)) (iN x3)) rr (iN x1) (iN x2)).2 = waS S (S 11 (iN x0)) (iN x3) (iN x1) (iN x2) := by rw [hrr]; exact waS_m hGw (old := up2 Z 0 0 0 1) hR l1
      have hRr : Rb rr := by rw [hrr]; exact Rb_fin hG (old := up2 Z 0 0 0 1) hR
      have hlm := lpB_min (S := S) (o := (opn S (S 11 (iN x0)) (iN x3))) (r := rr) (t := iN x2) (S 0 1)
      have hlo := lpB_ok (S := S) (o := (opn S (S 11 (iN x0)) (iN x3))) (r := rr) (t := iN x2) (S 0 1)
      refine lv_aload_n hx hb dX3_way_41 rfl (lv_at hl 1 rfl) ?_
      refine lv_iconst (v := nI 0) hx hb dX3_way_42 (by decide) ?_
      refine va_put (D := D) (v := .int (nI 0)) (ty := .int) hx hb hts hin_X3 tyX3 tyX3_ok nmX3 hown hX.1 hP hD hS 0 rfl rfl 22 (by decide) hf_129 (fun _ h9 => h9) rfl (by decide +kernel) rfl rfl (Nat.le_of_ble_eq_true rfl) dX3_way_43 (fun H locs hP hD hS => ?_)
      have hP : va_P D vwCl (wM q k (up2 S 0 6 0) (upR (up2 Z 0 0 0) 1 (itr S (opn S (S 11 (iN x0)) (iN x3)) (rs S (iN x1) ((up2 Z 0 0 0) 1)) 40))) H := sP_M0_22 hP
      have hD : va_D A (wM q k (up2 S 0 6 0) (upR (up2 Z 0 0 0) 1 (itr S (opn S (S 11 (iN x0)) (iN x3)) (rs S (iN x1) ((up2 Z 0 0 0) 1)) 40))) := sD_M0_22 hD
      refine lv_iload hx hb dX3_way_46 (lv_at hl 0 rfl) ?_
      refine lv_iconst (v := pI 0) hx hb dX3_way_48 (by decide) ?_
      refine nz_icmp_ne (tgt := 54) hx hb (by have := secs_le (S := S) (w := S 11 (iN x0)) (h := iN x3) (a := iN x1) (t := iN x2); omega) dX3_way_49 (by decide) (fun h_49 => ?_) (fun h_49 => ?_)
      · skip
        refine lv_aload_n hx hb dX3_way_54 rfl (lv_at hl 1 rfl) ?_
        refine va_get (D := D) (v := .ref (q 15)) hx hb hts hin_X3 hown hX.1 hP 0 rfl rfl 21 (by decide) hf_53 (fun _ h9 => h9) rfl dX3_way_55 ?_
        refine lv_iconst (v := nI 0) hx hb dX3_way_58 (by decide) ?_
        refine lv_iload_n hx hb dX3_way_59 rfl (lv_at hl 4 rfl) ?_
        refine na_as (y := nI (iN x2)) (iN_eq i0.2.2.1.1) ?_
        refine na_iast hx hb hX.1 hP hD hS 15 0 rfl rfl (by decide) (by decide) (upd_enc nI _ _ _) dX3_way_60 (fun H locs hP hD hS => ?_)
        have hP : va_P D vwCl (wM q k (up2 (up2 S 0 6 0) 14 0 (iN x2)) (upR (up2 Z 0 0 0) 1 (itr S (opn S (S 11 (iN x0)) (iN x3)) (rs S (iN x1) ((up2 Z 0 0 0) 1)) 40))) H := sP_M15 hP
        have hD : va_D A (wM q k (up2 (up2 S 0 6 0) 14 0 (iN x2)) (upR (up2 Z 0 0 0) 1 (itr S (opn S (S 11 (iN x0)) (iN x3)) (rs S (iN x1) ((up2 Z 0 0 0) 1)) 40))) := sD_M15 hD
        refine lv_aload_n hx hb dX3_way_61 rfl (lv_at hl 1 rfl) ?_
        refine lv_iconst (v := nI 1) hx hb dX3_way_62 (by decide) ?_
        refine va_put (D := D) (v := .int (nI 1)) (ty := .int) hx hb hts hin_X3 tyX3 tyX3_ok nmX3 hown hX.1 hP hD hS 0 rfl rfl 22 (by decide) hf_129 (fun _ h9 => h9) rfl (by decide +kernel) rfl rfl (Nat.le_of_ble_eq_true rfl) dX3_way_63 (fun H locs hP hD hS => ?_)
        have hP : va_P D vwCl (wM q k (up2 (up2 (up2 S 0 6 0) 14 0 (iN x2)) 0 6 1) (upR (up2 Z 0 0 0) 1 (itr S (opn S (S 11 (iN x0)) (iN x3)) (rs S (iN x1) ((up2 Z 0 0 0) 1)) 40))) H := sP_M0_22 hP
        have hD : va_D A (wM q k (up2 (up2 (up2 S 0 6 0) 14 0 (iN x2)) 0 6 1) (upR (up2 Z 0 0 0) 1 (itr S (opn S (S 11 (iN x0)) (iN x3)) (rs S (iN x1) ((up2 Z 0 0 0) 1)) 40))) := sD_M0_22 hD
        refine lv_iload_n hx hb dX3_way_66 rfl (lv_at hl 3 rfl) ?_
        refine lv_iload_n hx hb dX3_way_67 rfl (lv_at hl 4 rfl) ?_
        refine nr_icmp_ne (tgt := 73) hx hb dX3_way_68 (by decide) (fun h_68 => ?_) (fun h_68 => ?_)
        · skip
          obtain ⟨X0, hX0⟩ : ∃ X, X = up2 (up2 (up2 S 0 6 0) 14 0 (iN x2)) 0 6 1 := ⟨_, rfl⟩
          rw [← hX0] at hP hD
          have hX0 : X0 = up2 (upR S 14 (up1 (S 14) 0 (iN x2))) 0 6 1 := by rw [hX0]; exact wa_0
          obtain ⟨hAk, h11, h06⟩ := wa_X hX0
          have hne : iN x1 ≠ iN x2 := by omega
          have hx2 : ((lpB S (opn S (S 11 (iN x0)) (iN x3)) rr (iN x2) (S 0 1))).2 = secs S (S 11 (iN x0)) (iN x3) (iN x1) (iN x2) := by rw [hse, sTo, if_neg hne]
          have hb0 : 0 < ((lpB S (opn S (S 11 (iN x0)) (iN x3)) rr (iN x2) (S 0 1))).1 := Nat.pos_of_ne_zero fun q => h_49 (by rw [← hx2]; exact hlo.2.2.1 q)
          have hbl := hlm.2 hb0
          have hC0 := Ck_first (t := iN x2) hGw hF hb0
          refine lv_aload_n hx hb dX3_way_73 rfl (lv_at hl 1 rfl) ?_
          refine lv_iload_n hx hb dX3_way_74 rfl (lv_at hl 2 rfl) ?_
          refine na_as (y := nI (iN x0)) (iN_eq i0.1.1) ?_
          refine lv_iload_n hx hb dX3_way_75 rfl (lv_at hl 4 rfl) ?_
          refine na_as (y := nI (iN x2)) (iN_eq i0.2.2.1.1) ?_
          refine lv_iload hx hb dX3_way_76 (lv_at hl 0 rfl) ?_
          refine na_as (y := nI (secs S (S 11 (iN x0)) (iN x3) (iN x1) (iN x2))) (rI_some h_49) ?_
          refine lv_iload hx hb dX3_way_78 (lv_at hl 5 rfl) ?_
          refine na_as (y := nI (iN x3)) (iN_eq i0.2.2.2.1) ?_
          refine rd_V (As := [.int (nI (iN x0)), .int (nI (iN x2)), .int (nI (secs S (S 11 (iN x0)) (iN x3) (iN x1) (iN x2))), .int (nI (iN x3))]) (rest := []) ⟨hx, hb, hml, hown, hts⟩ (k_X3_lastEnd l D q k X0 (upR (up2 Z 0 0 0) 1 (itr S (opn S (S 11 (iN x0)) (iN x3)) (rs S (iN x1) ((up2 Z 0 0 0) 1)) 40)) (iN x0) (iN x2) (secs S (S 11 (iN x0)) (iN x3) (iN x1) (iN x2)) (iN x3) (Bd_X hX0 hB (by decide) (up1_lt (fun i => (hB.2.2.2.2 i).2.2) (by omega))) (Jn_X hX0 hJ) (by rw [hZ1]; exact hRr) (by omega) (by omega) (by have := secs_le (S := S) (w := S 11 (iN x0)) (h := iN x3) (a := iN x1) (t := iN x2); omega) (by omega)) (cwV 4 hts gX3_way_X3_lastEnd rfl rfl rfl (by decide +kernel) ⟨by decide, by decide⟩) hX hP (q0 := 0) rfl rfl rfl hl.1 rfl (Nat.le_of_ble_eq_true rfl) dX3_way_80 ⟨Nat.zero_le _, Nat.zero_le _⟩ ?_
          refine na_as (y := nI (S 7 (((lpB S (opn S (S 11 (iN x0)) (iN x3)) rr (iN x2) (S 0 1))).1 - 1))) (by rw [atS_S hAk, lEn_S hAk, opn_S hAk, h11, hAk.2.1, hZ1, ← hx2, lEn_eq hb0, atS_pos hb0]; exact (pI_s _).symm) ?_
          refine lv_istore (lv' := [(6, .int (nI (S 7 (((lpB S (opn S (S 11 (iN x0)) (iN x3)) rr (iN x2) (S 0 1))).1 - 1)))), (5, .int (rI (secs S (S 11 (iN x0)) (iN x3) (iN x1) (iN x2)))), (0, .ref (q 0)), (1, .int x0), (2, .int x1), (3, .int x2), (4, .int x3)]) hx hb dX3_way_83 hl (by decide) rfl (fun ls hl => ?_)
          have L85 : ∀ (n85 : Nat) (n1 : Nat) (e1 : Nat) (A1 : Nat → Nat) (X1 : Nat → Nat → Nat), (41 < n1 + n85) → (hX1 : X1 = up2 (upR S 14 A1) 0 6 n1) → (hA1 : ∀ i, A1 i < 20) → (hC : Ck S rr (iN x2) ((lpB S (opn S (S 11 (iN x0)) (iN x3)) rr (iN x2) (S 0 1))).2 n1 e1) → (hE : wChn S (opn S (S 11 (iN x0)) (iN x3)) rr (42 - n1) A1 n1 e1 = wayE S (opn S (S 11 (iN x0)) (iN x3)) rr (iN x1) (iN x2)) → ∀ (H : Heap) (locs : List Loc), va_P D vwCl (wM q k X1 (upR (up2 Z 0 0 0) 1 (itr S (opn S (S 11 (iN x0)) (iN x3)) (rs S (iN x1) ((up2 Z 0 0 0) 1)) 40))) H → va_D A (wM q k X1 (upR (up2 Z 0 0 0) 1 (itr S (opn S (S 11 (iN x0)) (iN x3)) (rs S (iN x1) ((up2 Z 0 0 0) 1)) 40))) → va_S A s.heap H locs → ∀ (ls : Array Slot), lv_has ls 7 [(6, .int (nI e1)), (5, .int (rI (secs S (S 11 (iN x0)) (iN x3) (iN x1) (iN x2)))), (0, .ref (q 0)), (1, .int x0), (2, .int x1), (3, .int x2), (4, .int x3)] → W p l e (headSpec wsX3_way ({ frames := 6, cells := 0, slots := 0, locals := 148 } : Room)).room s m [.ref (q 0), .int x0, .int x1, .int x2, .int x3].toArray below meth c H locs 0 0 (MQ below (va_Qi (fun (r : Int32) (u : (Nat → Nat → Nat) × (Nat → Nat → Nat)) => (cd1 (okD S x0 x1 x2 x3) = 0 → r = rI (secs S (S 11 (iN x0)) (iN x3) (iN x1) (iN x2))) ∧ u.1 = nS (cd1 (okD S x0 x1 x2 x3)) S (waS S (S 11 (iN x0)) (iN x3) (iN x1) (iN x2)) ∧ u.2 0 0 = cd1 (okD S x0 x1 x2 x3) ∧ Rb (u.2 1)) (fun u t => wE D (A) (wM q k u.1 u.2) t) (A)) [.ref (q 0), .int x0, .int x1, .int x2, .int x3].toArray s 0 0 A) (F0 m 85 ls []) := by
            intro n85
            induction n85 with
            | zero =>
              intro n1 e1 A1 X1 hfuel85 hX1 hA1 hC hE H locs hP hD hS ls hl
              exact absurd hfuel85 (by have := Ck_lt hGw l2 hC; omega)
            | succ n85 ih85 =>
              intro n1 e1 A1 X1 hfuel85 hX1 hA1 hC hE H locs hP hD hS ls hl
              obtain ⟨hAk1, h111, h06b⟩ := wa_X hX1
              refine lv_aload_n hx hb dX3_way_85 rfl (lv_at hl 2 rfl) ?_
              refine va_get (D := D) (v := .ref (q 14)) hx hb hts hin_X3 hown hX.1 hP 0 rfl rfl 20 (by decide) hf_50 (fun _ h9 => h9) rfl dX3_way_86 ?_
              refine lv_iload hx hb dX3_way_89 (lv_at hl 0 rfl) ?_
              refine na_iald hx hb hX.1 hP 14 0 rfl rfl (by have := hC.1; omega) (by decide) dX3_way_91 ?_
              refine na_as (y := nI (rr e1)) (by rw [hZ1]; exact rI_some hC.2.1) ?_
              refine na_if_le (tgt := 132) hx hb (by have := hRr e1; omega) dX3_way_92 (by decide) (fun h_92 => ?_) (fun h_92 => ?_)
              · skip
                refine lv_aload_n hx hb dX3_way_132 rfl (lv_at hl 2 rfl) ?_
                refine va_get (D := D) (v := .ref (q 15)) hx hb hts hin_X3 hown hX.1 hP 0 rfl rfl 21 (by decide) hf_53 (fun _ h9 => h9) rfl dX3_way_133 ?_
                refine lv_aload_n hx hb dX3_way_136 rfl (lv_at hl 2 rfl) ?_
                refine va_get (D := D) (v := .int (nI (X1 0 6))) hx hb hts hin_X3 hown hX.1 hP 0 rfl rfl 22 (by decide) hf_129 (fun _ h9 => h9) rfl dX3_way_137 ?_
                refine na_as (y := nI n1) (congrArg nI h06b) ?_
                refine lv_iload hx hb dX3_way_140 (lv_at hl 0 rfl) ?_
                refine lv_iconst (v := nI 2) hx hb dX3_way_142 (by decide) ?_
                refine na_idiv2 hx hb (by have := hC.1; omega) dX3_way_143 ?_
                refine na_iast hx hb hX.1 hP hD hS 15 0 rfl rfl (by have := Ck_lt hGw l2 hC; omega) (by decide) (upd_enc nI _ _ _) dX3_way_144 (fun H locs hP hD hS => ?_)
                have hP : va_P D vwCl (wM q k (up2 X1 14 n1 (e1 / 2)) (upR (up2 Z 0 0 0) 1 (itr S (opn S (S 11 (iN x0)) (iN x3)) (rs S (iN x1) ((up2 Z 0 0 0) 1)) 40))) H := sP_M15 hP
                have hD : va_D A (wM q k (up2 X1 14 n1 (e1 / 2)) (upR (up2 Z 0 0 0) 1 (itr S (opn S (S 11 (iN x0)) (iN x3)) (rs S (iN x1) ((up2 Z 0 0 0) 1)) 40))) := sD_M15 hD
                refine lv_aload_n hx hb dX3_way_145 rfl (lv_at hl 2 rfl) ?_
                refine lv_dup hx hb dX3_way_146 rfl ?_
                refine va_get (D := D) (v := .int (nI (X1 0 6))) hx hb hts hin_X3 hown hX.1 hP 0 rfl rfl 22 (by decide) hf_129 (fun _ h9 => h9) rfl dX3_way_147 ?_
                refine na_as (y := nI n1) (congrArg nI h06b) ?_
                refine lv_iconst (v := nI 1) hx hb dX3_way_150 (by decide) ?_
                refine na_iadd hx hb dX3_way_151 ?_
                refine va_put (D := D) (v := .int (nI (n1 + 1))) (ty := .int) hx hb hts hin_X3 tyX3 tyX3_ok nmX3 hown hX.1 hP hD hS 0 rfl rfl 22 (by decide) hf_129 (fun _ h9 => h9) rfl (by decide +kernel) rfl rfl (Nat.le_of_ble_eq_true rfl) dX3_way_152 (fun H locs hP hD hS => ?_)
                have hP : va_P D vwCl (wM q k (up2 (up2 X1 14 n1 (e1 / 2)) 0 6 (n1 + 1)) (upR (up2 Z 0 0 0) 1 (itr S (opn S (S 11 (iN x0)) (iN x3)) (rs S (iN x1) ((up2 Z 0 0 0) 1)) 40))) H := sP_M0_22 hP
                have hD : va_D A (wM q k (up2 (up2 X1 14 n1 (e1 / 2)) 0 6 (n1 + 1)) (upR (up2 Z 0 0 0) 1 (itr S (opn S (S 11 (iN x0)) (iN x3)) (rs S (iN x1) ((up2 Z 0 0 0) 1)) 40))) := sD_M0_22 hD
                refine lv_iload hx hb dX3_way_155 (lv_at hl 1 rfl) ?_
                exact W.iret (v := rI (secs S (S 11 (iN x0)) (iN x3) (iN x1) (iN x2))) hx hb hr (fun t ht hW => ⟨⟨_, ((up2 (up2 X1 14 n1 (e1 / 2)) 0 6 (n1 + 1)), (upR (up2 Z 0 0 0) 1 (itr S (opn S (S 11 (iN x0)) (iN x3)) (rs S (iN x1) ((up2 Z 0 0 0) 1)) 40))), rfl, ⟨fun _ => rfl, by rw [nS_0 c0, ← hws, ← hE, wChn_0 (by have := Ck_lt hGw l2 hC; omega) h_92]; exact wa_s hX1, by rw [c0]; rfl, by dsimp only; rw [hZ1]; exact hRr⟩, by rw [ht]; exact hP, hD⟩, hS.F ht⟩) hS.2.2 dX3_way_157
              · skip
                refine lv_aload_n hx hb dX3_way_95 rfl (lv_at hl 2 rfl) ?_
                refine va_get (D := D) (v := .ref (q 15)) hx hb hts hin_X3 hown hX.1 hP 0 rfl rfl 21 (by decide) hf_53 (fun _ h9 => h9) rfl dX3_way_96 ?_
                refine lv_aload_n hx hb dX3_way_99 rfl (lv_at hl 2 rfl) ?_
                refine va_get (D := D) (v := .int (nI (X1 0 6))) hx hb hts hin_X3 hown hX.1 hP 0 rfl rfl 22 (by decide) hf_129 (fun _ h9 => h9) rfl dX3_way_100 ?_
                refine na_as (y := nI n1) (congrArg nI h06b) ?_
                refine lv_iload hx hb dX3_way_103 (lv_at hl 0 rfl) ?_
                refine lv_iconst (v := nI 2) hx hb dX3_way_105 (by decide) ?_
                refine na_idiv2 hx hb (by have := hC.1; omega) dX3_way_106 ?_
                refine na_iast hx hb hX.1 hP hD hS 15 0 rfl rfl (by have := Ck_lt hGw l2 hC; omega) (by decide) (upd_enc nI _ _ _) dX3_way_107 (fun H locs hP hD hS => ?_)
                have hP : va_P D vwCl (wM q k (up2 X1 14 n1 (e1 / 2)) (upR (up2 Z 0 0 0) 1 (itr S (opn S (S 11 (iN x0)) (iN x3)) (rs S (iN x1) ((up2 Z 0 0 0) 1)) 40))) H := sP_M15 hP
                have hD : va_D A (wM q k (up2 X1 14 n1 (e1 / 2)) (upR (up2 Z 0 0 0) 1 (itr S (opn S (S 11 (iN x0)) (iN x3)) (rs S (iN x1) ((up2 Z 0 0 0) 1)) 40))) := sD_M15 hD
                refine lv_aload_n hx hb dX3_way_108 rfl (lv_at hl 2 rfl) ?_
                refine lv_dup hx hb dX3_way_109 rfl ?_
                refine va_get (D := D) (v := .int (nI (X1 0 6))) hx hb hts hin_X3 hown hX.1 hP 0 rfl rfl 22 (by decide) hf_129 (fun _ h9 => h9) rfl dX3_way_110 ?_
                refine na_as (y := nI n1) (congrArg nI h06b) ?_
                refine lv_iconst (v := nI 1) hx hb dX3_way_113 (by decide) ?_
                refine na_iadd hx hb dX3_way_114 ?_
                refine va_put (D := D) (v := .int (nI (n1 + 1))) (ty := .int) hx hb hts hin_X3 tyX3 tyX3_ok nmX3 hown hX.1 hP hD hS 0 rfl rfl 22 (by decide) hf_129 (fun _ h9 => h9) rfl (by decide +kernel) rfl rfl (Nat.le_of_ble_eq_true rfl) dX3_way_115 (fun H locs hP hD hS => ?_)
                have hP : va_P D vwCl (wM q k (up2 (up2 X1 14 n1 (e1 / 2)) 0 6 (n1 + 1)) (upR (up2 Z 0 0 0) 1 (itr S (opn S (S 11 (iN x0)) (iN x3)) (rs S (iN x1) ((up2 Z 0 0 0) 1)) 40))) H := sP_M0_22 hP
                have hD : va_D A (wM q k (up2 (up2 X1 14 n1 (e1 / 2)) 0 6 (n1 + 1)) (upR (up2 Z 0 0 0) 1 (itr S (opn S (S 11 (iN x0)) (iN x3)) (rs S (iN x1) ((up2 Z 0 0 0) 1)) 40))) := sD_M0_22 hD
                obtain ⟨X2, hX2⟩ : ∃ X, X = up2 (up2 X1 14 n1 (e1 / 2)) 0 6 (n1 + 1) := ⟨_, rfl⟩
                rw [← hX2] at hP hD
                have hX2 : X2 = up2 (upR S 14 (up1 A1 n1 (e1 / 2))) 0 6 (n1 + 1) := by rw [hX2]; exact wa_s hX1
                obtain ⟨hAk2, h112, h062⟩ := wa_X hX2
                have hpre := Fx_pre hGw hF hC.1 hC.2.1 (by omega)
                have hnx := Ck_next hGw hF hne hC (by omega) hbl.2.2.1
                refine lv_aload_n hx hb dX3_way_118 rfl (lv_at hl 2 rfl) ?_
                refine lv_iload_n hx hb dX3_way_119 rfl (lv_at hl 3 rfl) ?_
                refine na_as (y := nI (iN x0)) (iN_eq i0.1.1) ?_
                refine lv_iload hx hb dX3_way_120 (lv_at hl 0 rfl) ?_
                refine lv_iload hx hb dX3_way_122 (lv_at hl 6 rfl) ?_
                refine na_as (y := nI (iN x3)) (iN_eq i0.2.2.2.1) ?_
                refine rd_V (As := [.int (nI (iN x0)), .int (nI e1), .int (nI (iN x3))]) (rest := []) ⟨hx, hb, hml, hown, hts⟩ (k_X3_before l D q k X2 (upR (up2 Z 0 0 0) 1 (itr S (opn S (S 11 (iN x0)) (iN x3)) (rs S (iN x1) ((up2 Z 0 0 0) 1)) 40)) (iN x0) e1 (iN x3) (Bd_X hX2 hB (by have := Ck_lt hGw l2 hC; omega) (up1_lt hA1 (by have := hC.1; omega))) (Jn_X hX2 hJ) (by rw [hZ1]; exact hRr) (by omega) (by have := hC.1; omega) (by omega)) (cwV 3 hts gX3_way_X3_before rfl rfl rfl (by decide +kernel) ⟨by decide, by decide⟩) hX hP (q0 := 0) rfl rfl rfl hl.1 rfl (Nat.le_of_ble_eq_true rfl) dX3_way_124 ⟨Nat.zero_le _, Nat.zero_le _⟩ ?_
                refine na_as (y := nI (S 7 (pBf S (opn S (S 11 (iN x0)) (iN x3)) rr e1 - 1))) (by rw [atS_S hAk2, bEn_S hAk2, opn_S hAk2, h112, hAk2.2.1, hZ1, ← pBf_eq (by omega), atS_pos hpre.1]; exact (pI_s _).symm) ?_
                refine lv_istore (lv' := [(6, .int (nI (S 7 (pBf S (opn S (S 11 (iN x0)) (iN x3)) rr e1 - 1)))), (5, .int (rI (secs S (S 11 (iN x0)) (iN x3) (iN x1) (iN x2)))), (0, .ref (q 0)), (1, .int x0), (2, .int x1), (3, .int x2), (4, .int x3)]) hx hb dX3_way_127 hl (by decide) rfl (fun ls hl => ?_)
                refine lv_goto (tgt := 85) hx hb dX3_way_129 (by decide) ?_
                exact ih85 (n1 + 1) ((S 7 (pBf S (opn S (S 11 (iN x0)) (iN x3)) rr e1 - 1))) (up1 A1 n1 (e1 / 2)) X2 (by omega) hX2 (up1_lt hA1 (by have := hC.1; omega)) hnx (by rw [← hE, wChn_s (f := 42 - n1) (by have := Ck_lt hGw l2 hC; omega) (by omega)]; rfl) _ _ hP hD hS ls hl
          exact L85 41 1 ((S 7 (((lpB S (opn S (S 11 (iN x0)) (iN x3)) rr (iN x2) (S 0 1))).1 - 1))) (up1 (S 14) 0 (iN x2)) X0 (by omega) hX0 (up1_lt (fun i => (hB.2.2.2.2 i).2.2) (by omega)) hC0 (by rw [wayE, if_neg hne, if_neg (by omega)]) _ _ hP hD hS ls hl
        · skip
          refine lv_iconst (v := nI 0) hx hb dX3_way_71 (by decide) ?_
          exact W.iret (v := nI 0) hx hb hr (fun t ht hW => ⟨⟨_, ((up2 (up2 (up2 S 0 6 0) 14 0 (iN x2)) 0 6 1), (upR (up2 Z 0 0 0) 1 (itr S (opn S (S 11 (iN x0)) (iN x3)) (rs S (iN x1) ((up2 Z 0 0 0) 1)) 40))), rfl, ⟨fun _ => by rw [hse, sTo, if_pos (by omega)]; rfl, by rw [nS_0 c0, ← hws, wayE, if_pos (by omega)]; exact wa_0, by rw [c0]; rfl, by dsimp only; rw [hZ1]; exact hRr⟩, by rw [ht]; exact hP, hD⟩, hS.F ht⟩) hS.2.2 dX3_way_72
      · skip
        refine lv_iconst (v := pI 0) hx hb dX3_way_52 (by decide) ?_
        have hne : iN x1 ≠ iN x2 := fun q => by rw [hse, sTo, if_pos q] at h_49; omega
        have hb0 : ((lpB S (opn S (S 11 (iN x0)) (iN x3)) rr (iN x2) (S 0 1))).1 = 0 := by rw [hse, sTo, if_neg hne] at h_49; have := hlo.2.2.2; omega
        exact W.iret (v := pI 0) hx hb hr (fun t ht hW => ⟨⟨_, ((up2 S 0 6 0), (upR (up2 Z 0 0 0) 1 (itr S (opn S (S 11 (iN x0)) (iN x3)) (rs S (iN x1) ((up2 Z 0 0 0) 1)) 40))), rfl, ⟨fun _ => by rw [h_49]; exact rI_none.symm, by rw [nS_0 c0, ← hws, wayE, if_neg hne, if_pos hb0, upR_id], by rw [c0]; rfl, by dsimp only; rw [hZ1]; exact hRr⟩, by rw [ht]; exact hP, hD⟩, hS.F ht⟩) hS.2.2 dX3_way_53
    · exact absurd h_25 (by decide)
