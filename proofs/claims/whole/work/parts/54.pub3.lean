set_option maxHeartbeats 4000000 in
set_option maxRecDepth 100000 in
theorem k_X2_table (l : Launch) (hst : l.stackTraces = false) (D : va_G) (q : Nat → Nat) (k : Nat → ClassId) (r : Nat → Nat) (S Z : Nat → Nat → Nat) (sz : Nat) (x0 : Int32) (x1 : Int32) (hB : Bd S) (hC : CI S Z) (hG : Gr S (2 * S 0 0)) (h4 : S 0 4 < 2 ^ 30) (h13 : ∀ i, S 13 i ≤ S 0 4) (hc3 : 0 < S 0 3 → 0 < S 0 4) (h12 : ∀ i, i < S 0 3 → S 12 i < S 0 0) : vx_Met l yX2_table wsX2_table ({ frames := 7, cells := 1, slots := 6, locals := 118 } : Room) (va_Pc [.ref (q 0), .int x0, .int x1] (tB D k (wC q k r S Z) sz)) (va_Qi (fun (r : Int32) (u : (Nat → Nat → Nat) × (Nat → Nat → Nat)) => cdTb S x0 x1 = 0 ∧ r = rI (secs S (S 11 0) 12 (S 12 (iN x0)) (S 12 (iN x1))) ∧ u.1 = tbS S (iN x0) ∧ CI u.1 u.2) (fun u t => wE D (va_A (wC q k r S Z) sz) (wC q k r u.1 u.2) t) (va_A (wC q k r S Z) sz)) (vx_X (fun _ : Unit => True) (fun E _ t => ((E = eIS ∧ cdTb S x0 x1 = 1) ∨ (E = eAI ∧ cdTb S x0 x1 = 2)) ∧ wE D (va_A (wC q k r S Z) sz) (wC q k r S Z) t) (va_A (wC q k r S Z) sz)) 1 6 (va_A (wC q k r S Z) sz) := by
  refine vx_ofW (cc := cX2_table) (maxL := 3) (ret := (some .int)) (by decide) rfl ?_
  intro p e s m args below meth c s₁ B hml hno hv
  obtain ⟨rfl, ⟨hsz, hP, hX, hD0⟩, hT, hZ⟩ := hv
  have hx := B.exec
  have hb := B.bytes
  have hr := B.returns
  have hts := atoms_spec (ws := wsX2_table) B.pre
  have hown : s.vm.findClass RX2 = some m.cls := findClass_of_methodNamed B.named
  have hlocks := B.notSynchronized
  subst hsz
  have hD := hD0.self (sz := s.heap.size)
  generalize hAe : va_A (wC q k r S Z) s.heap.size = A at hD hZ ⊢
  have hA : ∀ q : Nat, s.heap.size ≤ q → A q := fun q h => by rw [← hAe]; exact Or.inr h
  have hS : va_S A s.heap s.heap [] := va_S.rf
  have hP : va_P D vwCl (wC q k r S Z) s.heap := hP
  have hf_35 := hts (.fieldLink RX2 35 "FloorGraph" "tableRows" "[[I") (by decide +kernel)
  have hf_38 := hts (.fieldLink RX2 38 "FloorGraph" "rowWorkedAt" "[I") (by decide +kernel)
  have hf_59 := hts (.fieldLink RX2 59 "FloorGraph" "changes" "I") (by decide +kernel)
  have hf_118 := hts (.fieldLink RX2 118 "FloorGraph" "robots" "I") (by decide +kernel)
  have hf_158 := hts (.fieldLink RX2 158 "FloorGraph" "chargers" "I") (by decide +kernel)
  have hin_X2 : ∀ w ∈ u_ws RX2 TX2 12, w ∈ wsX2_table := by decide +kernel
  have hg_157 : ∀ w ∈ (vx_atS RX2 157 eIS nm2).filter goodWord, w.before [.ref (q 0), .int x0, .int x1].toArray s = true := fun w h => hts w (List.mem_cons_of_mem _ (List.mem_append_right _ h))
  have hg_170 : ∀ w ∈ (vx_atS RX2 170 eAI nm3).filter goodWord, w.before [.ref (q 0), .int x0, .int x1].toArray s = true := fun w h => va_tabs (at9_t w h) rfl (hT.2.2.2 w h)
  have f0 := hB.1
  have f1 := nI_toInt (n := S 0 3) (by omega)
  have hZ0 := hC.1
  have hl := lv_entry ([.ref (q 0), .int x0, .int x1]) (n := 3) (Nat.le_of_ble_eq_true rfl)
  rw [lg_entry_eq]
  generalize (lg_sl ([.ref (q 0), .int x0, .int x1]) ++ List.replicate (3 - (lg_sl ([.ref (q 0), .int x0, .int x1])).length) Slot.unset).toArray = ls at hl ⊢
  have hl : lv_has ls 3 [(0, .ref (q 0)), (1, .int x0), (2, .int x1)] := hl
  refine lv_aload_n hx hb dX2_table_0 rfl (lv_at hl 0 rfl) ?_
  refine va_get (D := D) (v := .int (nI (S 0 2))) hx hb hts hin_X2 hown hX.1 hP 0 rfl rfl 3 (by decide) hf_118 (fun _ h9 => h9) rfl dX2_table_1 ?_
  refine na_if_ne (tgt := 17) hx hb (by omega) dX2_table_4 (by decide) (fun h_4 => ?_) (fun h_4 => ?_)
  · skip
    refine lv_iload_n hx hb dX2_table_17 rfl (lv_at hl 1 rfl) ?_
    refine nr_if_lt (tgt := 41) hx hb dX2_table_18 (by decide) (fun h_18 => ?_) (fun h_18 => ?_)
    · skip
      exact th_row (is := 168) (text := "no such charger") (rest := []) hx hb hst hown (by decide +kernel) (by decide +kernel) (hts (.classLink RX2 166 eAI) (by decide +kernel)) (hts (.initialized eAI) (by decide +kernel)) hT (by decide +kernel) (by decide +kernel) hg_170 bd_AI gd_AI hZ hS (hl.1.trans hml.symm) dX2_table_41 dX2_table_44 dX2_table_45 dX2_table_47 dX2_table_50 hno (Nat.le_of_ble_eq_true rfl) (Nat.le_of_ble_eq_true rfl) (Nat.le_of_ble_eq_true rfl) (Nat.le_of_ble_eq_true rfl) hlocks (fun t hvm h1 h2 => ⟨(), trivial, ⟨Or.inr ⟨rfl, cdTb_2 (by omega) (fun q => by omega)⟩, th_P hP h2, hD⟩, th_F hS h1 h2⟩) hS.2.2 (Nat.le_of_ble_eq_true rfl) (Nat.le_of_ble_eq_true rfl)
    · skip
      refine lv_iload_n hx hb dX2_table_21 rfl (lv_at hl 1 rfl) ?_
      refine lv_aload_n hx hb dX2_table_22 rfl (lv_at hl 0 rfl) ?_
      refine va_get (D := D) (v := .int (nI (S 0 3))) hx hb hts hin_X2 hown hX.1 hP 0 rfl rfl 5 (by decide) hf_158 (fun _ h9 => h9) rfl dX2_table_23 ?_
      refine nr_icmp_ge (tgt := 41) hx hb dX2_table_26 (by decide) (fun h_26 => ?_) (fun h_26 => ?_)
      · skip
        exact th_row (is := 168) (text := "no such charger") (rest := []) hx hb hst hown (by decide +kernel) (by decide +kernel) (hts (.classLink RX2 166 eAI) (by decide +kernel)) (hts (.initialized eAI) (by decide +kernel)) hT (by decide +kernel) (by decide +kernel) hg_170 bd_AI gd_AI hZ hS (hl.1.trans hml.symm) dX2_table_41 dX2_table_44 dX2_table_45 dX2_table_47 dX2_table_50 hno (Nat.le_of_ble_eq_true rfl) (Nat.le_of_ble_eq_true rfl) (Nat.le_of_ble_eq_true rfl) (Nat.le_of_ble_eq_true rfl) hlocks (fun t hvm h1 h2 => ⟨(), trivial, ⟨Or.inr ⟨rfl, cdTb_2 (by omega) (fun q => by omega)⟩, th_P hP h2, hD⟩, th_F hS h1 h2⟩) hS.2.2 (Nat.le_of_ble_eq_true rfl) (Nat.le_of_ble_eq_true rfl)
      · skip
        refine lv_iload_n hx hb dX2_table_29 rfl (lv_at hl 2 rfl) ?_
        refine nr_if_lt (tgt := 41) hx hb dX2_table_30 (by decide) (fun h_30 => ?_) (fun h_30 => ?_)
        · skip
          exact th_row (is := 168) (text := "no such charger") (rest := []) hx hb hst hown (by decide +kernel) (by decide +kernel) (hts (.classLink RX2 166 eAI) (by decide +kernel)) (hts (.initialized eAI) (by decide +kernel)) hT (by decide +kernel) (by decide +kernel) hg_170 bd_AI gd_AI hZ hS (hl.1.trans hml.symm) dX2_table_41 dX2_table_44 dX2_table_45 dX2_table_47 dX2_table_50 hno (Nat.le_of_ble_eq_true rfl) (Nat.le_of_ble_eq_true rfl) (Nat.le_of_ble_eq_true rfl) (Nat.le_of_ble_eq_true rfl) hlocks (fun t hvm h1 h2 => ⟨(), trivial, ⟨Or.inr ⟨rfl, cdTb_2 (by omega) (fun q => by omega)⟩, th_P hP h2, hD⟩, th_F hS h1 h2⟩) hS.2.2 (Nat.le_of_ble_eq_true rfl) (Nat.le_of_ble_eq_true rfl)
        · skip
          refine lv_iload_n hx hb dX2_table_33 rfl (lv_at hl 2 rfl) ?_
          refine lv_aload_n hx hb dX2_table_34 rfl (lv_at hl 0 rfl) ?_
          refine va_get (D := D) (v := .int (nI (S 0 3))) hx hb hts hin_X2 hown hX.1 hP 0 rfl rfl 5 (by decide) hf_158 (fun _ h9 => h9) rfl dX2_table_35 ?_
          refine nr_icmp_lt (tgt := 51) hx hb dX2_table_38 (by decide) (fun h_38 => ?_) (fun h_38 => ?_)
          · skip
            have j0 := iN_toInt (x := x0) (by omega)
            have j1 := iN_toInt (x := x1) (by omega)
            have c0 : cdTb S x0 x1 = 0 := cdTb_0 (by omega) ⟨⟨by omega, by omega⟩, by omega, by omega⟩
            have g13 := h13 (iN x0)
            refine lv_aload_n hx hb dX2_table_51 rfl (lv_at hl 0 rfl) ?_
            refine va_get (D := D) (v := .ref (q 22)) hx hb hts hin_X2 hown hX.1 hP 0 rfl rfl 9 (by decide) hf_38 (fun _ h9 => h9) rfl dX2_table_52 ?_
            refine lv_iload_n hx hb dX2_table_55 rfl (lv_at hl 1 rfl) ?_
            refine na_as (y := nI (iN x0)) (iN_eq (by omega)) ?_
            refine na_iald hx hb hX.1 hP 22 0 rfl rfl (by omega) (by decide) dX2_table_56 ?_
            refine lv_aload_n hx hb dX2_table_57 rfl (lv_at hl 0 rfl) ?_
            refine va_get (D := D) (v := .int (nI (S 0 4))) hx hb hts hin_X2 hown hX.1 hP 0 rfl rfl 10 (by decide) hf_59 (fun _ h9 => h9) rfl dX2_table_58 ?_
            refine na_icmp_eq (tgt := 69) hx hb (by omega) (by omega) dX2_table_61 (by decide) (fun h_61 => ?_) (fun h_61 => ?_)
            · skip
              refine lv_aload_n hx hb dX2_table_69 rfl (lv_at hl 0 rfl) ?_
              refine va_get (D := D) (v := .ref (q 21)) hx hb hts hin_X2 hown hX.1 hP 0 rfl rfl 8 (by decide) hf_35 (fun _ h9 => h9) rfl dX2_table_70 ?_
              refine lv_iload_n hx hb dX2_table_73 rfl (lv_at hl 1 rfl) ?_
              refine na_as (y := nI (iN x0)) (iN_eq (by omega)) ?_
              refine na_aald (b := r (40 + (iN x0))) hx hb hX.1 hP 21 2 rfl rfl (by omega) (by decide) (if_pos (by omega)) dX2_table_74 ?_
              refine lv_iload_n hx hb dX2_table_75 rfl (lv_at hl 2 rfl) ?_
              refine na_as (y := nI (iN x1)) (iN_eq (by omega)) ?_
              refine na_iald hx hb hX.1 hP (63 + (iN x0)) 0 (wC_tab (by omega)) rfl (by omega) (by decide) dX2_table_76 ?_
              refine na_as (y := rI (secs S (S 11 0) 12 (S 12 (iN x0)) (S 12 (iN x1)))) (congrArg rI (hC.2.2.2 _ (by omega) h_61 _ (by omega))) ?_
              refine vx_ret (W.widen (k := 1) (n := 6) (Nat.le_of_ble_eq_true rfl) (Nat.le_of_ble_eq_true rfl) ?_)
              exact W.iret (v := rI (secs S (S 11 0) 12 (S 12 (iN x0)) (S 12 (iN x1)))) hx hb hr (fun t ht hW => ⟨⟨_, (S, Z), rfl, ⟨c0, rfl, by rw [tbS, if_pos h_61], hC⟩, by rw [ht]; exact hP, hD⟩, hS.F ht⟩) hS.2.2 dX2_table_77
            · skip
              refine lv_aload_n hx hb dX2_table_64 rfl (lv_at hl 0 rfl) ?_
              refine lv_iload_n hx hb dX2_table_65 rfl (lv_at hl 1 rfl) ?_
              refine na_as (y := nI (iN x0)) (iN_eq (by omega)) ?_
              refine wr_Vv (As := [.int (nI (iN x0))]) (rest := []) ⟨hx, hb, hml, hown, hts⟩ (k_X2_workRow l D q k r S Z _ (iN x0) hB hZ0 hG (by omega) h12) (cwV 1 hts gX2_table_X2_workRow rfl rfl rfl (by decide +kernel) ⟨by decide, by decide⟩) hX hP hD hS hA (q0 := 0) rfl rfl rfl hl.1 rfl (Nat.le_of_ble_eq_true rfl) dX2_table_66 ⟨Nat.le_of_ble_eq_true rfl, Nat.le_of_ble_eq_true rfl⟩ (fun u_1 H locs hw_1 hP hD hS => ?_)
              obtain ⟨S_1, Z_1⟩ := u_1
              obtain ⟨e1, e2⟩ := hw_1
              dsimp only at e1 e2 hP hD
              rw [e1, e2] at hP hD
              have hP : va_P D vwCl (wC q k r (up2 (up2 S 13 (iN x0) (S 0 4)) 0 5 (S 0 5 + 1)) (upR (dvZ S Z (S 11 0) 12 (S 12 (iN x0))) (50 + (iN x0)) (fun j => if j < S 0 3 then secs S (S 11 0) 12 (S 12 (iN x0)) (S 12 j) else dvZ S Z (S 11 0) 12 (S 12 (iN x0)) (50 + (iN x0)) j))) H := hP
              have hD : va_D A (wC q k r (up2 (up2 S 13 (iN x0) (S 0 4)) 0 5 (S 0 5 + 1)) (upR (dvZ S Z (S 11 0) 12 (S 12 (iN x0))) (50 + (iN x0)) (fun j => if j < S 0 3 then secs S (S 11 0) 12 (S 12 (iN x0)) (S 12 j) else dvZ S Z (S 11 0) 12 (S 12 (iN x0)) (50 + (iN x0)) j))) := hD
              refine lv_aload_n hx hb dX2_table_69 rfl (lv_at hl 0 rfl) ?_
              refine va_get (D := D) (v := .ref (q 21)) hx hb hts hin_X2 hown hX.1 hP 0 rfl rfl 8 (by decide) hf_35 (fun _ h9 => h9) rfl dX2_table_70 ?_
              refine lv_iload_n hx hb dX2_table_73 rfl (lv_at hl 1 rfl) ?_
              refine na_as (y := nI (iN x0)) (iN_eq (by omega)) ?_
              refine na_aald (b := r (40 + (iN x0))) hx hb hX.1 hP 21 2 rfl rfl (by omega) (by decide) (if_pos (by omega)) dX2_table_74 ?_
              refine lv_iload_n hx hb dX2_table_75 rfl (lv_at hl 2 rfl) ?_
              refine na_as (y := nI (iN x1)) (iN_eq (by omega)) ?_
              refine na_iald hx hb hX.1 hP (63 + (iN x0)) 0 (wC_tab (by omega)) rfl (by omega) (by decide) dX2_table_76 ?_
              refine na_as (y := rI (secs S (S 11 0) 12 (S 12 (iN x0)) (S 12 (iN x1)))) (congrArg rI (by rw [upR_same]; exact if_pos (by omega))) ?_
              refine vx_ret (W.widen (k := 1) (n := 6) (Nat.le_of_ble_eq_true rfl) (Nat.le_of_ble_eq_true rfl) ?_)
              exact W.iret (v := rI (secs S (S 11 0) 12 (S 12 (iN x0)) (S 12 (iN x1)))) hx hb hr (fun t ht hW => ⟨⟨_, ((up2 (up2 S 13 (iN x0) (S 0 4)) 0 5 (S 0 5 + 1)), (upR (dvZ S Z (S 11 0) 12 (S 12 (iN x0))) (50 + (iN x0)) (fun j => if j < S 0 3 then secs S (S 11 0) 12 (S 12 (iN x0)) (S 12 j) else dvZ S Z (S 11 0) 12 (S 12 (iN x0)) (50 + (iN x0)) j))), rfl, ⟨c0, rfl, by rw [tbS, if_neg h_61], CI_w hC (ZR_d hZ0 hC.2.1)⟩, by rw [ht]; exact hP, hD⟩, hS.F ht⟩) hS.2.2 dX2_table_77
          · skip
            exact th_row (is := 168) (text := "no such charger") (rest := []) hx hb hst hown (by decide +kernel) (by decide +kernel) (hts (.classLink RX2 166 eAI) (by decide +kernel)) (hts (.initialized eAI) (by decide +kernel)) hT (by decide +kernel) (by decide +kernel) hg_170 bd_AI gd_AI hZ hS (hl.1.trans hml.symm) dX2_table_41 dX2_table_44 dX2_table_45 dX2_table_47 dX2_table_50 hno (Nat.le_of_ble_eq_true rfl) (Nat.le_of_ble_eq_true rfl) (Nat.le_of_ble_eq_true rfl) (Nat.le_of_ble_eq_true rfl) hlocks (fun t hvm h1 h2 => ⟨(), trivial, ⟨Or.inr ⟨rfl, cdTb_2 (by omega) (fun q => by omega)⟩, th_P hP h2, hD⟩, th_F hS h1 h2⟩) hS.2.2 (Nat.le_of_ble_eq_true rfl) (Nat.le_of_ble_eq_true rfl)
  · skip
    exact th_row (is := 164) (text := "there is no robot") (rest := []) hx hb hst hown (by decide +kernel) (by decide +kernel) (hts (.classLink RX2 153 eIS) (by decide +kernel)) (hts (.initialized eIS) (by decide +kernel)) hT (by decide +kernel) (by decide +kernel) hg_157 bd_IS gd_IS hZ hS (hl.1.trans hml.symm) dX2_table_7 dX2_table_10 dX2_table_11 dX2_table_13 dX2_table_16 hno (Nat.le_of_ble_eq_true rfl) (Nat.le_of_ble_eq_true rfl) (Nat.le_of_ble_eq_true rfl) (Nat.le_of_ble_eq_true rfl) hlocks (fun t hvm h1 h2 => ⟨(), trivial, ⟨Or.inl ⟨rfl, cdTb_1 (by omega)⟩, th_P hP h2, hD⟩, th_F hS h1 h2⟩) hS.2.2 (Nat.le_of_ble_eq_true rfl) (Nat.le_of_ble_eq_true rfl)

set_option maxHeartbeats 4000000 in
set_option maxRecDepth 100000 in
theorem k_X2_plain (l : Launch) (hst : l.stackTraces = false) (D : va_G) (q : Nat → Nat) (k : Nat → ClassId) (r : Nat → Nat) (S Z : Nat → Nat → Nat) (sz : Nat) (x0 : Int32) (x1 : Int32) (x2 : Int32) (x3 : Int32) (x4 : Int32) (hB : Bd S) (hZ0 : ∀ p, Z 0 p ≤ 1) (hZ2 : ∀ p, Z 2 p ≤ 1) (hL : LV S Z) (h8 : ∀ p, p < S 0 1 → S 8 p / 2 < S 0 0) : vx_Met l yX2_plain wsX2_plain ({ frames := 8, cells := 4, slots := 24, locals := 200 } : Room) (va_Pc [.ref (q 0), .int x0, .int x1, .int x2, .int x3, .int x4] (tB D k (wC q k r S Z) sz)) (va_Qi (fun (r : Int32) (u : (Nat → Nat → Nat) × (Nat → Nat → Nat)) => cd1 (okD S x0 x1 x2 x3 ∧ 0 ≤ x4.toInt ∧ x4.toInt ≤ 5) = 0 ∧ r = nI (if iN x1 = iN x2 then 0 else cpl S (opn S (S 11 (iN x0)) (iN x3)) (iN x1) (iN x2) (iN x4)) ∧ u.1 = S ∧ ZR Z u.2) (fun u t => wE D (va_A (wC q k r S Z) sz) (wC q k r u.1 u.2) t) (va_A (wC q k r S Z) sz)) (vx_X (fun _ : Unit => True) (fun E _ t => (E = eIA ∧ cd1 (okD S x0 x1 x2 x3 ∧ 0 ≤ x4.toInt ∧ x4.toInt ≤ 5) = 1) ∧ wE D (va_A (wC q k r S Z) sz) (wC q k r S Z) t) (va_A (wC q k r S Z) sz)) 4 24 (va_A (wC q k r S Z) sz) := by
  refine vx_ofW (cc := cX2_plain) (maxL := 6) (ret := (some .int)) (by decide) rfl ?_
  intro p e s m args below meth c s₁ B hml hno hv
  obtain ⟨rfl, ⟨hsz, hP, hX, hD0⟩, hT, hZ⟩ := hv
  have hx := B.exec
  have hb := B.bytes
  have hr := B.returns
  have hts := atoms_spec (ws := wsX2_plain) B.pre
  have hown : s.vm.findClass RX2 = some m.cls := findClass_of_methodNamed B.named
  have hlocks := B.notSynchronized
  subst hsz
  have hD := hD0.self (sz := s.heap.size)
  generalize hAe : va_A (wC q k r S Z) s.heap.size = A at hD hZ ⊢
  have hA : ∀ q : Nat, s.heap.size ≤ q → A q := fun q h => by rw [← hAe]; exact Or.inr h
  have hS : va_S A s.heap s.heap [] := va_S.rf
  have hP : va_P D vwCl (wC q k r S Z) s.heap := hP
  have hf_12 := hts (.fieldLink RX2 12 "FloorGraph" "floor" "LFloorGraph$Floor;") (by decide +kernel)
  have hf_19 := hts (.fieldLink RX2 19 "FloorGraph" "drive" "LFloorGraph$Drive;") (by decide +kernel)
  have hf_23 := hts (.fieldLink RX2 23 "FloorGraph" "robotWidths" "[I") (by decide +kernel)
  have hin_X2 : ∀ w ∈ u_ws RX2 TX2 12, w ∈ wsX2_plain := by decide +kernel
  have hg_45 : ∀ w ∈ (vx_atS RX2 45 eIA nm2).filter goodWord, w.before [.ref (q 0), .int x0, .int x1, .int x2, .int x3, .int x4].toArray s = true := fun w h => hts w (List.mem_cons_of_mem _ (List.mem_append_right _ h))
  have f0 := hB.1
  have c5 : (nI 5).toInt = 5 := rfl
  have hl := lv_entry ([.ref (q 0), .int x0, .int x1, .int x2, .int x3, .int x4]) (n := 6) (Nat.le_of_ble_eq_true rfl)
  rw [lg_entry_eq]
  generalize (lg_sl ([.ref (q 0), .int x0, .int x1, .int x2, .int x3, .int x4]) ++ List.replicate (6 - (lg_sl ([.ref (q 0), .int x0, .int x1, .int x2, .int x3, .int x4])).length) Slot.unset).toArray = ls at hl ⊢
  have hl : lv_has ls 6 [(0, .ref (q 0)), (1, .int x0), (2, .int x1), (3, .int x2), (4, .int x3), (5, .int x4)] := hl
  refine lv_aload_n hx hb dX2_plain_0 rfl (lv_at hl 0 rfl) ?_
  refine lv_iload_n hx hb dX2_plain_1 rfl (lv_at hl 1 rfl) ?_
  refine lv_iload_n hx hb dX2_plain_2 rfl (lv_at hl 2 rfl) ?_
  refine lv_iload_n hx hb dX2_plain_3 rfl (lv_at hl 3 rfl) ?_
  refine lv_iload hx hb dX2_plain_4 (lv_at hl 4 rfl) ?_
  refine xr_Vv (As := [.int x0, .int x1, .int x2, .int x3]) (rest := []) ⟨hx, hb, hml, hown, hts⟩ (k_X2_needJourney l hst D q k r S Z _ x0 x1 x2 x3 hB) (cwV 4 hts gX2_plain_X2_needJourney rfl rfl rfl (by decide +kernel) ⟨by decide, by decide⟩) hX hT hZ hP hD hS hA (q0 := 0) rfl rfl rfl hl.1 rfl (Nat.le_of_ble_eq_true rfl) dX2_plain_6 ⟨(Nat.le_of_ble_eq_true rfl), (Nat.le_of_ble_eq_true rfl)⟩ hno hlocks (Nat.le_of_ble_eq_true rfl) (Nat.le_of_ble_eq_true rfl) (fun _ h => h) (fun E u t _ hxe hvm hP9 hD9 hF9 => ⟨(), trivial, ⟨⟨hxe.1, cd1_1 (ok := okD S x0 x1 x2 x3 ∧ 0 ≤ x4.toInt ∧ x4.toInt ≤ 5) (fun q => hxe.2 q.1)⟩, hP9, hD9⟩, hF9⟩) (fun u_1 H locs hw_1 hP hD hS => ?_)
  obtain ⟨S_1, Z_1⟩ := u_1
  obtain ⟨e1, e2, hk_1⟩ := hw_1
  dsimp only at e1 e2 hP hD
  rw [e1, e2] at hP hD
  have hP : va_P D vwCl (wC q k r S Z) H := hP
  have hD : va_D A (wC q k r S Z) := hD
  refine lv_iload hx hb dX2_plain_9 (lv_at hl 5 rfl) ?_
  refine nr_if_lt (tgt := 20) hx hb dX2_plain_11 (by decide) (fun h_11 => ?_) (fun h_11 => ?_)
  · skip
    exact th_row (is := 177) (text := "pieces between out of range") (rest := []) hx hb hst hown (by decide +kernel) (by decide +kernel) (hts (.classLink RX2 41 eIA) (by decide +kernel)) (hts (.initialized eIA) (by decide +kernel)) hT (by decide +kernel) (by decide +kernel) hg_45 bd_IA gd_IA hZ hS (hl.1.trans hml.symm) dX2_plain_20 dX2_plain_23 dX2_plain_24 dX2_plain_26 dX2_plain_29 hno (Nat.le_of_ble_eq_true rfl) (Nat.le_of_ble_eq_true rfl) (Nat.le_of_ble_eq_true rfl) (Nat.le_of_ble_eq_true rfl) hlocks (fun t hvm h1 h2 => ⟨(), trivial, ⟨⟨rfl, cd1_1 (ok := okD S x0 x1 x2 x3 ∧ 0 ≤ x4.toInt ∧ x4.toInt ≤ 5) (fun q => by omega)⟩, th_P hP h2, hD⟩, th_F hS h1 h2⟩) hS.2.2 (Nat.le_of_ble_eq_true rfl) (Nat.le_of_ble_eq_true rfl)
  · skip
    refine lv_iload hx hb dX2_plain_14 (lv_at hl 5 rfl) ?_
    refine lv_iconst (v := nI 5) hx hb dX2_plain_16 (by decide) ?_
    refine nr_icmp_le (tgt := 30) hx hb dX2_plain_17 (by decide) (fun h_17 => ?_) (fun h_17 => ?_)
    · skip
      have l1 := hk_1.2.1.lt
      have l2 := hk_1.2.2.1.lt
      have j0 := iN_toInt (x := x0) hk_1.1.1
      have j1 := iN_toInt (x := x1) hk_1.2.1.1
      have j2 := iN_toInt (x := x2) hk_1.2.2.1.1
      have j3 := iN_toInt (x := x3) hk_1.2.2.2.1
      have j4 := iN_toInt (x := x4) (by omega)
      have l0 := hk_1.1.2
      have l3 := hk_1.2.2.2.2
      have c0 : cd1 (okD S x0 x1 x2 x3 ∧ 0 ≤ x4.toInt ∧ x4.toInt ≤ 5) = 0 := cd1_0 ⟨hk_1, by omega, by omega⟩
      have f11 := (hB.2.2.2.2 (iN x0)).1
      refine lv_iload_n hx hb dX2_plain_30 rfl (lv_at hl 2 rfl) ?_
      refine lv_iload_n hx hb dX2_plain_31 rfl (lv_at hl 3 rfl) ?_
      refine nr_icmp_ne (tgt := 37) hx hb dX2_plain_32 (by decide) (fun h_32 => ?_) (fun h_32 => ?_)
      · skip
        refine lv_aload_n hx hb dX2_plain_37 rfl (lv_at hl 0 rfl) ?_
        refine va_get (D := D) (v := .ref (q 2)) hx hb hts hin_X2 hown hX.1 hP 0 rfl rfl 1 (by decide) hf_19 (fun _ h9 => h9) rfl dX2_plain_38 ?_
        refine lv_aload_n hx hb dX2_plain_41 rfl (lv_at hl 0 rfl) ?_
        refine va_get (D := D) (v := .ref (q 1)) hx hb hts hin_X2 hown hX.1 hP 0 rfl rfl 0 (by decide) hf_12 (fun _ h9 => h9) rfl dX2_plain_42 ?_
        refine lv_aload_n hx hb dX2_plain_45 rfl (lv_at hl 0 rfl) ?_
        refine va_get (D := D) (v := .ref (q 18)) hx hb hts hin_X2 hown hX.1 hP 0 rfl rfl 2 (by decide) hf_23 (fun _ h9 => h9) rfl dX2_plain_46 ?_
        refine lv_iload_n hx hb dX2_plain_49 rfl (lv_at hl 1 rfl) ?_
        refine na_as (y := nI (iN x0)) (iN_eq hk_1.1.1) ?_
        refine na_iald hx hb hX.1 hP 18 0 rfl rfl (by omega) (by decide) dX2_plain_50 ?_
        refine lv_iload hx hb dX2_plain_51 (lv_at hl 4 rfl) ?_
        refine na_as (y := nI (iN x3)) (iN_eq hk_1.2.2.2.1) ?_
        refine wr_Nv (As := [.ref (q 1), .int (nI (S 11 (iN x0))), .int (nI (iN x3))]) (rest := []) ⟨hx, hb, hml, hown, hts⟩ (k_X0_begin l D q k r S Z _ (S 11 (iN x0)) (iN x3) hB (by omega) (by omega)) ⟨va_cnB 3 hts gX2_plain_X0_begin_n131 rfl rfl rfl (hX.2.2 ("FloorGraph", 131, yX0_begin) (by decide +kernel)) (hts (.initialized RX0) (by decide +kernel)) (by decide +kernel) ⟨by decide, by decide⟩, hts (.instanceMethod yX0_begin) (by decide +kernel), hts (.selects RX0 yX0_begin yX0_begin) (by decide +kernel)⟩ hX hP hD hS hA (q0 := 2) rfl rfl rfl hl.1 rfl (Nat.le_of_ble_eq_true rfl) dX2_plain_53 ⟨Nat.le_of_ble_eq_true rfl, Nat.le_of_ble_eq_true rfl⟩ (fun u_2 H locs hw_2 hP hD hS => ?_)
        obtain ⟨S_2, Z_2⟩ := u_2
        obtain ⟨e1, e2⟩ := hw_2
        dsimp only at e1 e2 hP hD
        rw [e1, e2] at hP hD
        have hP : va_P D vwCl (wC q k r S (dvO S Z (S 11 (iN x0)) (iN x3))) H := hP
        have hD : va_D A (wC q k r S (dvO S Z (S 11 (iN x0)) (iN x3))) := hD
        refine lv_aload_n hx hb dX2_plain_56 rfl (lv_at hl 0 rfl) ?_
        refine va_get (D := D) (v := .ref (q 2)) hx hb hts hin_X2 hown hX.1 hP 0 rfl rfl 1 (by decide) hf_19 (fun _ h9 => h9) rfl dX2_plain_57 ?_
        refine lv_aload_n hx hb dX2_plain_60 rfl (lv_at hl 0 rfl) ?_
        refine va_get (D := D) (v := .ref (q 1)) hx hb hts hin_X2 hown hX.1 hP 0 rfl rfl 0 (by decide) hf_12 (fun _ h9 => h9) rfl dX2_plain_61 ?_
        refine lv_iload_n hx hb dX2_plain_64 rfl (lv_at hl 2 rfl) ?_
        refine na_as (y := nI (iN x1)) (iN_eq hk_1.2.1.1) ?_
        refine lv_iload_n hx hb dX2_plain_65 rfl (lv_at hl 3 rfl) ?_
        refine na_as (y := nI (iN x2)) (iN_eq hk_1.2.2.1.1) ?_
        refine lv_iload hx hb dX2_plain_66 (lv_at hl 5 rfl) ?_
        refine na_as (y := nI (iN x4)) (iN_eq (by omega)) ?_
        refine wr_Ni (As := [.ref (q 1), .int (nI (iN x1)), .int (nI (iN x2)), .int (nI (iN x4))]) (rest := []) ⟨hx, hb, hml, hown, hts⟩ (k_X0_waysBetween l D q k r S (dvO S Z (S 11 (iN x0)) (iN x3)) _ (iN x1) (iN x2) (iN x4) hB (fun p => dvO_le hZ0 p) hZ2 (LV_R hL) l1 (by omega) (by omega) h8) ⟨va_cnB 4 hts gX2_plain_X0_waysBetween_n179 rfl rfl rfl (hX.2.2 ("FloorGraph", 179, yX0_waysBetween) (by decide +kernel)) (hts (.initialized RX0) (by decide +kernel)) (by decide +kernel) ⟨by decide, by decide⟩, hts (.instanceMethod yX0_waysBetween) (by decide +kernel), hts (.selects RX0 yX0_waysBetween yX0_waysBetween) (by decide +kernel)⟩ hX hP hD hS hA (q0 := 2) rfl rfl rfl hl.1 rfl (Nat.le_of_ble_eq_true rfl) dX2_plain_68 ⟨Nat.le_of_ble_eq_true rfl, Nat.le_of_ble_eq_true rfl⟩ (fun r_3 u_3 H locs hw_3 hP hD hS => ?_)
        obtain ⟨S_3, Z_3⟩ := u_3
        obtain ⟨e1, e2, e3⟩ := hw_3
        dsimp only at e2 e3 hP hD
        rw [e2, e3] at hP hD
        subst e1
        have hP : va_P D vwCl (wC q k r S (upR (dvO S Z (S 11 (iN x0)) (iN x3)) 2 (fun j => if j < S 0 0 then met1 (iN x1) j else (dvO S Z (S 11 (iN x0)) (iN x3)) 2 j))) H := hP
        have hD : va_D A (wC q k r S (upR (dvO S Z (S 11 (iN x0)) (iN x3)) 2 (fun j => if j < S 0 0 then met1 (iN x1) j else (dvO S Z (S 11 (iN x0)) (iN x3)) 2 j))) := hD
        refine vx_ret (W.widen (k := 4) (n := 24) (Nat.le_of_ble_eq_true rfl) (Nat.le_of_ble_eq_true rfl) ?_)
        exact W.iret (v := nI (cpl S (oZ (dvO S Z (S 11 (iN x0)) (iN x3))) (iN x1) (iN x2) (iN x4))) hx hb hr (fun t ht hW => ⟨⟨_, (S, (upR (dvO S Z (S 11 (iN x0)) (iN x3)) 2 (fun j => if j < S 0 0 then met1 (iN x1) j else (dvO S Z (S 11 (iN x0)) (iN x3)) 2 j))), rfl, ⟨c0, congrArg nI (by rw [if_neg (by omega)]; exact cpl_o h8 (fun p hp => dvO_o hp)), rfl, ZR_2 (ZR_o hZ0 hZ2) (fun p => by split <;> first | exact met1_le _ _ | exact hZ2 p)⟩, by rw [ht]; exact hP, hD⟩, hS.F ht⟩) hS.2.2 dX2_plain_71
      · skip
        refine lv_iconst (v := nI 0) hx hb dX2_plain_35 (by decide) ?_
        refine vx_ret (W.widen (k := 4) (n := 24) (Nat.le_of_ble_eq_true rfl) (Nat.le_of_ble_eq_true rfl) ?_)
        exact W.iret (v := nI 0) hx hb hr (fun t ht hW => ⟨⟨_, (S, Z), rfl, ⟨c0, by rw [if_pos (by omega)], rfl, hZ0, hZ2, fun _ _ => rfl⟩, by rw [ht]; exact hP, hD⟩, hS.F ht⟩) hS.2.2 dX2_plain_36
    · skip
      exact th_row (is := 177) (text := "pieces between out of range") (rest := []) hx hb hst hown (by decide +kernel) (by decide +kernel) (hts (.classLink RX2 41 eIA) (by decide +kernel)) (hts (.initialized eIA) (by decide +kernel)) hT (by decide +kernel) (by decide +kernel) hg_45 bd_IA gd_IA hZ hS (hl.1.trans hml.symm) dX2_plain_20 dX2_plain_23 dX2_plain_24 dX2_plain_26 dX2_plain_29 hno (Nat.le_of_ble_eq_true rfl) (Nat.le_of_ble_eq_true rfl) (Nat.le_of_ble_eq_true rfl) (Nat.le_of_ble_eq_true rfl) hlocks (fun t hvm h1 h2 => ⟨(), trivial, ⟨⟨rfl, cd1_1 (ok := okD S x0 x1 x2 x3 ∧ 0 ≤ x4.toInt ∧ x4.toInt ≤ 5) (fun q => by omega)⟩, th_P hP h2, hD⟩, th_F hS h1 h2⟩) hS.2.2 (Nat.le_of_ble_eq_true rfl) (Nat.le_of_ble_eq_true rfl)
