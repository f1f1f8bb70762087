set_option maxHeartbeats 4000000 in
set_option maxRecDepth 100000 in
theorem k_X3_bits (l : Launch) (v0 : Nat) (hv : v0 < 2 ^ 24) : Met l yX3_bits wsX3_bits ({ frames := 0, cells := 0, slots := 0, locals := 0 } : Room) (va_Pc [.int (nI v0)] (fun _ => True)) (vp_Si (fun r => r = nI (pop v0))) 0 0 (fun _ => False) := by
  refine Met.ofW (cc := cX3_bits) (maxL := 3) (ret := (some .int)) (by decide) rfl ?_
  intro p e s m args below meth c s₁ B hml hv
  obtain ⟨rfl, -⟩ := hv
  have hx := B.exec
  have hb := B.bytes
  have hr := B.returns
  have hts := atoms_spec (ws := wsX3_bits) B.pre
  have hown : s.vm.findClass RX3 = some m.cls := findClass_of_methodNamed B.named
  have hlocks := B.notSynchronized
  have hl := lv_entry ([.int (nI v0)]) (n := 3) (Nat.le_of_ble_eq_true rfl)
  rw [lg_entry_eq]
  generalize (lg_sl ([.int (nI v0)]) ++ List.replicate (3 - (lg_sl ([.int (nI v0)])).length) Slot.unset).toArray = ls at hl ⊢
  have hl : lv_has ls 3 [(0, .int (nI v0))] := hl
  refine lv_iconst (v := nI 0) hx hb dX3_bits_0 (by decide) ?_
  refine lv_istore_n (lv' := [(1, .int (nI 0)), (0, .int (nI v0))]) hx hb dX3_bits_1 rfl hl (by decide) rfl (fun ls hl => ?_)
  refine lv_iconst (v := nI 0) hx hb dX3_bits_2 (by decide) ?_
  refine lv_istore_n (lv' := [(2, .int (nI 0)), (1, .int (nI 0)), (0, .int (nI v0))]) hx hb dX3_bits_3 rfl hl (by decide) rfl (fun ls hl => ?_)
  have L4 : ∀ (n4 : Nat) (i : Nat) (f : Nat), (24 < i + n4) → (h1 : i ≤ 24) → (h3 : f = sm (fun k => v0 / 2 ^ k % 2) 0 i) → ∀ (ls : Array Slot), lv_has ls 3 [(2, .int (nI i)), (1, .int (nI f)), (0, .int (nI v0))] → W p l e (headSpec wsX3_bits ({ frames := 0, cells := 0, slots := 0, locals := 0 } : Room)).room s m [.int (nI v0)].toArray below meth c s.heap [] 0 0 (MQ below (vp_Si (fun r => r = nI (pop v0))) [.int (nI v0)].toArray s 0 0 (fun _ => False)) (F0 m 4 ls []) := by
    intro n4
    induction n4 with
    | zero =>
      intro i f hfuel4 h1 h3 ls hl
      exact absurd hfuel4 (by omega)
    | succ n4 ih4 =>
      intro i f hfuel4 h1 h3 ls hl
      have f5 : v0 / 2 ^ i ≤ v0 := Nat.div_le_self _ _
      have f6 : v0 / 2 ^ i % 2 < 2 := Nat.mod_lt _ (by decide)
      refine lv_iload_n hx hb dX3_bits_4 rfl (lv_at hl 0 rfl) ?_
      refine lv_bipush (v := nI 24) hx hb dX3_bits_5 (by decide) ?_
      refine na_icmp_ge (tgt := 24) hx hb (by omega) (by omega) dX3_bits_7 (by decide) (fun h_7 => ?_) (fun h_7 => ?_)
      · skip
        refine lv_iload_n hx hb dX3_bits_24 rfl (lv_at hl 1 rfl) ?_
        exact W.iret (v := nI f) hx hb hr (fun t ht hW => ⟨_, rfl, congrArg nI (by rw [h3, show i = 24 by omega]; rfl), ht⟩) (fun _ h => by cases h) dX3_bits_25
      · skip
        refine lv_iload_n hx hb dX3_bits_10 rfl (lv_at hl 1 rfl) ?_
        refine lv_iload_n hx hb dX3_bits_11 rfl (lv_at hl 2 rfl) ?_
        refine lv_iload_n hx hb dX3_bits_12 rfl (lv_at hl 0 rfl) ?_
        refine na_ishr hx hb (by omega) (by omega) dX3_bits_13 ?_
        refine lv_iconst (v := nI 1) hx hb dX3_bits_14 (by decide) ?_
        refine na_iand1 hx hb (by omega) dX3_bits_15 ?_
        refine na_iadd hx hb dX3_bits_16 ?_
        refine lv_istore_n (lv' := [(1, .int (nI (f + ((v0 / 2 ^ i) % 2)))), (2, .int (nI i)), (0, .int (nI v0))]) hx hb dX3_bits_17 rfl hl (by decide) rfl (fun ls hl => ?_)
        refine lv_iinc (v := nI (i + 1)) (lv' := [(2, .int (nI (i + 1))), (1, .int (nI (f + ((v0 / 2 ^ i) % 2)))), (0, .int (nI v0))]) hx hb dX3_bits_18 hl (k := 1) rfl (nI_add _ 1) (by decide) rfl (fun ls hl => ?_)
        refine lv_goto (tgt := 4) hx hb dX3_bits_21 (by decide) ?_
        exact ih4 (i + 1) ((f + ((v0 / 2 ^ i) % 2))) (by omega) (by omega) (by show _ = sm (fun k => v0 / 2 ^ k % 2) 0 i + v0 / 2 ^ (0 + i) % 2; rw [Nat.zero_add, h3]) ls hl
  exact L4 25 0 0 (by omega) (by omega) rfl ls hl

set_option maxHeartbeats 4000000 in
set_option maxRecDepth 100000 in
theorem k_X3_with (l : Launch) (v0 : Nat) (k0 : Nat) (b : Bool) (hv : v0 < 2 ^ 24) (hk : k0 < 24) : Met l yX3_with wsX3_with ({ frames := 0, cells := 0, slots := 0, locals := 0 } : Room) (va_Pc [.int (nI v0), .int (nI k0), .int (nI (bN b))] (fun _ => True)) (vp_Si (fun r => r = nI (wb v0 k0 b))) 0 0 (fun _ => False) := by
  refine Met.ofW (cc := cX3_with) (maxL := 3) (ret := (some .int)) (by decide) rfl ?_
  intro p e s m args below meth c s₁ B hml hv
  obtain ⟨rfl, -⟩ := hv
  have hx := B.exec
  have hb := B.bytes
  have hr := B.returns
  have hts := atoms_spec (ws := wsX3_with) B.pre
  have hown : s.vm.findClass RX3 = some m.cls := findClass_of_methodNamed B.named
  have hlocks := B.notSynchronized
  have hl := lv_entry ([.int (nI v0), .int (nI k0), .int (nI (bN b))]) (n := 3) (Nat.le_of_ble_eq_true rfl)
  rw [lg_entry_eq]
  generalize (lg_sl ([.int (nI v0), .int (nI k0), .int (nI (bN b))]) ++ List.replicate (3 - (lg_sl ([.int (nI v0), .int (nI k0), .int (nI (bN b))])).length) Slot.unset).toArray = ls at hl ⊢
  have hl : lv_has ls 3 [(0, .int (nI v0)), (1, .int (nI k0)), (2, .int (nI (bN b)))] := hl
  refine lv_iload_n hx hb dX3_with_0 rfl (lv_at hl 2 rfl) ?_
  refine na_if_eq (tgt := 12) hx hb (bN_lt _) dX3_with_1 (by decide) (fun h_1 => ?_) (fun h_1 => ?_)
  · skip
    refine lv_iload_n hx hb dX3_with_12 rfl (lv_at hl 0 rfl) ?_
    refine lv_iconst (v := nI 1) hx hb dX3_with_13 (by decide) ?_
    refine lv_iload_n hx hb dX3_with_14 rfl (lv_at hl 1 rfl) ?_
    refine lv_ishl hx hb dX3_with_15 ?_
    refine lv_iconst (v := pI 0) hx hb dX3_with_16 (by decide) ?_
    refine lv_ixor hx hb dX3_with_17 ?_
    refine lv_iand hx hb dX3_with_18 ?_
    exact W.iret (v := nI v0 &&& ((nI 1 <<< (nI k0 &&& 31)) ^^^ pI 0)) hx hb hr (fun t ht hW => ⟨_, rfl, by rw [← (wb_ok b hv hk).1, wbI, if_neg (bN_no h_1)], ht⟩) (fun _ h => by cases h) dX3_with_19
  · skip
    refine lv_iload_n hx hb dX3_with_4 rfl (lv_at hl 0 rfl) ?_
    refine lv_iconst (v := nI 1) hx hb dX3_with_5 (by decide) ?_
    refine lv_iload_n hx hb dX3_with_6 rfl (lv_at hl 1 rfl) ?_
    refine lv_ishl hx hb dX3_with_7 ?_
    refine lv_ior hx hb dX3_with_8 ?_
    refine lv_goto (tgt := 19) hx hb dX3_with_9 (by decide) ?_
    exact W.iret (v := nI v0 ||| (nI 1 <<< (nI k0 &&& 31))) hx hb hr (fun t ht hW => ⟨_, rfl, by rw [← (wb_ok b hv hk).1, wbI, if_pos (bN_pos h_1)], ht⟩) (fun _ h => by cases h) dX3_with_19

set_option maxHeartbeats 4000000 in
set_option maxRecDepth 100000 in
theorem k_X3_turn (l : Launch) (D : va_G) (q : Nat → Nat) (k : Nat → ClassId) (S Z : Nat → Nat → Nat) (sz : Nat) (x0 : Int32) (x1 : Int32) (b : Bool) (hB : Bd S) : Met l yX3_turn wsX3_turn ({ frames := 1, cells := 0, slots := 0, locals := 22 } : Room) (va_Pc [.ref (q 0), .int x0, .int x1, .int (nI (bN b))] (wB D k (wM q k S Z) sz)) (va_Qi (fun (r : Int32) (u : (Nat → Nat → Nat) × (Nat → Nat → Nat)) => (cd1 (okT S x0 x1) = 0 → r = nI (tuS S (2 * iN x0 + iN x1) (bN b) 10 (2 * iN x0) + tuS S (2 * iN x0 + iN x1) (bN b) 10 (2 * iN x0 + 1))) ∧ u.1 = nS (cd1 (okT S x0 x1)) S (tuS S (2 * iN x0 + iN x1) (bN b)) ∧ u.2 = up2 Z 0 0 (cd1 (okT S x0 x1))) (fun u t => wE D (va_A (wM q k S Z) sz) (wM q k u.1 u.2) t) (va_A (wM q k S Z) sz)) 0 0 (va_A (wM q k S Z) sz) := by
  refine Met.ofW (cc := cX3_turn) (maxL := 4) (ret := (some .int)) (by decide) rfl ?_
  intro p e s m args below meth c s₁ B hml hv
  obtain ⟨rfl, hsz, hP, hX, hD0⟩ := hv
  have hx := B.exec
  have hb := B.bytes
  have hr := B.returns
  have hts := atoms_spec (ws := wsX3_turn) B.pre
  have hown : s.vm.findClass RX3 = some m.cls := findClass_of_methodNamed B.named
  have hlocks := B.notSynchronized
  subst hsz
  have hD := hD0.self (sz := s.heap.size)
  generalize hAe : va_A (wM q k S Z) s.heap.size = A at hD ⊢
  have hA : ∀ q : Nat, s.heap.size ≤ q → A q := fun q h => by rw [← hAe]; exact Or.inr h
  have hS : va_S A s.heap s.heap [] := va_S.rf
  have hP : va_P D vwCl (wM q k S Z) s.heap := hP
  have hf_38 := hts (.fieldLink RX3 38 "FloorGraphModel" "bars" "[I") (by decide +kernel)
  have hf_59 := hts (.fieldLink RX3 59 "FloorGraphModel" "code" "I") (by decide +kernel)
  have hf_70 := hts (.fieldLink RX3 70 "FloorGraphModel" "changes" "I") (by decide +kernel)
  have hf_73 := hts (.fieldLink RX3 73 "FloorGraphModel" "joins" "I") (by decide +kernel)
  have hin_X3 : ∀ w ∈ u_ws RX3 TX3 24, w ∈ wsX3_turn := by decide +kernel
  have f0 := hB.1
  have hl := lv_entry ([.ref (q 0), .int x0, .int x1, .int (nI (bN b))]) (n := 4) (Nat.le_of_ble_eq_true rfl)
  rw [lg_entry_eq]
  generalize (lg_sl ([.ref (q 0), .int x0, .int x1, .int (nI (bN b))]) ++ List.replicate (4 - (lg_sl ([.ref (q 0), .int x0, .int x1, .int (nI (bN b))])).length) Slot.unset).toArray = ls at hl ⊢
  have hl : lv_has ls 4 [(0, .ref (q 0)), (1, .int x0), (2, .int x1), (3, .int (nI (bN b)))] := hl
  refine lv_aload_n hx hb dX3_turn_0 rfl (lv_at hl 0 rfl) ?_
  refine lv_iload_n hx hb dX3_turn_1 rfl (lv_at hl 1 rfl) ?_
  refine lv_iconst (v := nI 0) hx hb dX3_turn_2 (by decide) ?_
  refine lv_aload_n hx hb dX3_turn_3 rfl (lv_at hl 0 rfl) ?_
  refine va_get (D := D) (v := .int (nI ((S 0 1) / 2))) hx hb hts hin_X3 hown hX.1 hP 0 rfl rfl 8 (by decide) hf_73 (fun _ h9 => h9) rfl dX3_turn_4 ?_
  refine lv_iconst (v := nI 1) hx hb dX3_turn_7 (by decide) ?_
  refine lv_isub hx hb dX3_turn_8 ?_
  refine na_as (y := pI ((S 0 1) / 2)) rfl ?_
  refine rd_S (As := [.int x0, .int (nI 0), .int (pI ((S 0 1) / 2))]) (rest := [.ref (q 0)]) ⟨hx, hb, hml, hown, hts⟩ (k_X3_in l x0 (nI 0) (pI ((S 0 1) / 2)) ) (va_cwS 3 hts gX3_turn_X3_in rfl rfl rfl (by decide +kernel) ⟨by decide, by decide⟩) rfl hl.1 rfl (Nat.le_of_ble_eq_true rfl) dX3_turn_9 ⟨Nat.zero_le _, Nat.zero_le _⟩ ?_
  refine na_if_eq (tgt := 24) hx hb (bN_lt _) dX3_turn_12 (by decide) (fun h_12 => ?_) (fun h_12 => ?_)
  · skip
    refine lv_iconst (v := nI 1) hx hb dX3_turn_24 (by decide) ?_
    refine lv_goto (tgt := 29) hx hb dX3_turn_25 (by decide) ?_
    refine va_put (D := D) (v := .int (nI 1)) (ty := .int) hx hb hts hin_X3 tyX3 tyX3_ok nmX3 hown hX.1 hP hD hS 0 rfl rfl 0 (by decide) hf_59 (fun _ h9 => h9) rfl (by decide +kernel) rfl rfl (Nat.le_of_ble_eq_true rfl) dX3_turn_29 (fun H locs hP hD hS => ?_)
    have hP : va_P D vwCl (wM q k S (up2 Z 0 0 1)) H := sP_M0_0 hP
    have hD : va_D A (wM q k S (up2 Z 0 0 1)) := sD_M0_0 hD
    refine lv_aload_n hx hb dX3_turn_32 rfl (lv_at hl 0 rfl) ?_
    refine va_get (D := D) (v := .int (nI 1)) hx hb hts hin_X3 hown hX.1 hP 0 rfl rfl 0 (by decide) hf_59 (fun _ h9 => h9) rfl dX3_turn_33 ?_
    refine na_if_le (tgt := 41) hx hb (by omega) dX3_turn_36 (by decide) (fun h_36 => ?_) (fun h_36 => ?_)
    · exact absurd h_36 (by decide)
    · skip
      refine lv_iconst (v := nI 0) hx hb dX3_turn_39 (by decide) ?_
      exact W.iret (v := nI 0) hx hb hr (fun t ht hW => ⟨⟨_, (S, (up2 Z 0 0 1)), rfl, (have hc : cd1 (okT S x0 x1) = 1 := cd1_1 (ok := okT S x0 x1) (fun q => by unfold okT at q; first | (have z := inp_f (by omega) h_12; omega) | (have z := in_f (by decide) (by decide) h_21; omega)); ⟨fun q => absurd (hc.symm.trans q) (by decide), (nS_n (by rw [hc]; decide)).symm, by rw [hc]⟩), by rw [ht]; exact hP, hD⟩, hS.F ht⟩) hS.2.2 dX3_turn_40
  · skip
    refine lv_iload_n hx hb dX3_turn_15 rfl (lv_at hl 2 rfl) ?_
    refine lv_iconst (v := nI 0) hx hb dX3_turn_16 (by decide) ?_
    refine lv_iconst (v := nI 1) hx hb dX3_turn_17 (by decide) ?_
    refine rd_S (As := [.int x1, .int (nI 0), .int (nI 1)]) (rest := [.ref (q 0)]) ⟨hx, hb, hml, hown, hts⟩ (k_X3_in l x1 (nI 0) (nI 1) ) (va_cwS 3 hts gX3_turn_X3_in rfl rfl rfl (by decide +kernel) ⟨by decide, by decide⟩) rfl hl.1 rfl (Nat.le_of_ble_eq_true rfl) dX3_turn_18 ⟨Nat.zero_le _, Nat.zero_le _⟩ ?_
    refine na_if_ne (tgt := 28) hx hb (bN_lt _) dX3_turn_21 (by decide) (fun h_21 => ?_) (fun h_21 => ?_)
    · skip
      refine lv_iconst (v := nI 0) hx hb dX3_turn_28 (by decide) ?_
      refine va_put (D := D) (v := .int (nI 0)) (ty := .int) hx hb hts hin_X3 tyX3 tyX3_ok nmX3 hown hX.1 hP hD hS 0 rfl rfl 0 (by decide) hf_59 (fun _ h9 => h9) rfl (by decide +kernel) rfl rfl (Nat.le_of_ble_eq_true rfl) dX3_turn_29 (fun H locs hP hD hS => ?_)
      have hP : va_P D vwCl (wM q k S (up2 Z 0 0 0)) H := sP_M0_0 hP
      have hD : va_D A (wM q k S (up2 Z 0 0 0)) := sD_M0_0 hD
      refine lv_aload_n hx hb dX3_turn_32 rfl (lv_at hl 0 rfl) ?_
      refine va_get (D := D) (v := .int (nI 0)) hx hb hts hin_X3 hown hX.1 hP 0 rfl rfl 0 (by decide) hf_59 (fun _ h9 => h9) rfl dX3_turn_33 ?_
      refine na_if_le (tgt := 41) hx hb (by omega) dX3_turn_36 (by decide) (fun h_36 => ?_) (fun h_36 => ?_)
      · skip
        have i0 := inp_t (by omega) h_12
        have i1 := in_t (by decide) (by decide) h_21
        have j0 := iN_toInt (x := x0) (by omega)
        have j1 := iN_toInt (x := x1) (by omega)
        have g0 := (hB.2.2.1 (2 * iN x0)).2
        have g1 := (hB.2.2.1 (2 * iN x0 + 1)).2
        have g10 : ∀ p, S 10 p ≤ 1 := fun p => (hB.2.2.1 p).2
        have g2 := up2_le1 (f := 10) (p := 2 * iN x0 + iN x1) g10 (bN_le b)
        refine lv_aload_n hx hb dX3_turn_41 rfl (lv_at hl 0 rfl) ?_
        refine va_get (D := D) (v := .ref (q 10)) hx hb hts hin_X3 hown hX.1 hP 0 rfl rfl 12 (by decide) hf_38 (fun _ h9 => h9) rfl dX3_turn_42 ?_
        refine lv_iload_n hx hb dX3_turn_45 rfl (lv_at hl 1 rfl) ?_
        refine na_as (y := nI (iN x0)) (iN_eq (by omega)) ?_
        refine lv_aload_n hx hb dX3_turn_46 rfl (lv_at hl 0 rfl) ?_
        refine va_get (D := D) (v := .ref (q 10)) hx hb hts hin_X3 hown hX.1 hP 0 rfl rfl 12 (by decide) hf_38 (fun _ h9 => h9) rfl dX3_turn_47 ?_
        refine lv_iload_n hx hb dX3_turn_50 rfl (lv_at hl 1 rfl) ?_
        refine na_as (y := nI (iN x0)) (iN_eq (by omega)) ?_
        refine na_iald hx hb hX.1 hP 10 0 rfl rfl (by omega) (by decide) dX3_turn_51 ?_
        refine lv_iload_n hx hb dX3_turn_52 rfl (lv_at hl 2 rfl) ?_
        refine na_as (y := nI (iN x1)) (iN_eq (by omega)) ?_
        refine lv_iload_n hx hb dX3_turn_53 rfl (lv_at hl 3 rfl) ?_
        refine rd_S (As := [.int (nI (S 10 (2 * (iN x0)) + 2 * S 10 (2 * (iN x0) + 1))), .int (nI (iN x1)), .int (nI (bN b))]) (rest := [.int (nI (iN x0)), .ref (q 10)]) ⟨hx, hb, hml, hown, hts⟩ (k_X3_with l (S 10 (2 * (iN x0)) + 2 * S 10 (2 * (iN x0) + 1)) (iN x1) b (by omega) (by omega)) (va_cwS 3 hts gX3_turn_X3_with rfl rfl rfl (by decide +kernel) ⟨by decide, by decide⟩) rfl hl.1 rfl (Nat.le_of_ble_eq_true rfl) dX3_turn_54 ⟨Nat.zero_le _, Nat.zero_le _⟩ ?_
        refine na_iast hx hb hX.1 hP hD hS 10 0 rfl rfl (by omega) (by decide) (barU b g10 (by omega)) dX3_turn_57 (fun H locs hP hD hS => ?_)
        have hP : va_P D vwCl (wM q k (up2 S 10 (2 * iN x0 + iN x1) (bN b)) (up2 Z 0 0 0)) H := sP_M10 hP
        have hD : va_D A (wM q k (up2 S 10 (2 * iN x0 + iN x1) (bN b)) (up2 Z 0 0 0)) := sD_M10 hD
        refine lv_aload_n hx hb dX3_turn_58 rfl (lv_at hl 0 rfl) ?_
        refine lv_dup hx hb dX3_turn_59 rfl ?_
        refine va_get (D := D) (v := .int (nI (S 0 4))) hx hb hts hin_X3 hown hX.1 hP 0 rfl rfl 17 (by decide) hf_70 (fun _ h9 => h9) rfl dX3_turn_60 ?_
        refine lv_iconst (v := nI 1) hx hb dX3_turn_63 (by decide) ?_
        refine na_iadd hx hb dX3_turn_64 ?_
        refine va_put (D := D) (v := .int (nI ((S 0 4) + 1))) (ty := .int) hx hb hts hin_X3 tyX3 tyX3_ok nmX3 hown hX.1 hP hD hS 0 rfl rfl 17 (by decide) hf_70 (fun _ h9 => h9) rfl (by decide +kernel) rfl rfl (Nat.le_of_ble_eq_true rfl) dX3_turn_65 (fun H locs hP hD hS => ?_)
        have hP : va_P D vwCl (wM q k (up2 (up2 S 10 (2 * iN x0 + iN x1) (bN b)) 0 4 ((S 0 4) + 1)) (up2 Z 0 0 0)) H := sP_M0_17 hP
        have hD : va_D A (wM q k (up2 (up2 S 10 (2 * iN x0 + iN x1) (bN b)) 0 4 ((S 0 4) + 1)) (up2 Z 0 0 0)) := sD_M0_17 hD
        refine lv_aload_n hx hb dX3_turn_68 rfl (lv_at hl 0 rfl) ?_
        refine va_get (D := D) (v := .ref (q 10)) hx hb hts hin_X3 hown hX.1 hP 0 rfl rfl 12 (by decide) hf_38 (fun _ h9 => h9) rfl dX3_turn_69 ?_
        refine lv_iload_n hx hb dX3_turn_72 rfl (lv_at hl 1 rfl) ?_
        refine na_as (y := nI (iN x0)) (iN_eq (by omega)) ?_
        refine na_iald hx hb hX.1 hP 10 0 rfl rfl (by omega) (by decide) dX3_turn_73 ?_
        refine na_as (y := nI ((up2 S 10 (2 * iN x0 + iN x1) (bN b)) 10 (2 * (iN x0)) + 2 * (up2 S 10 (2 * iN x0 + iN x1) (bN b)) 10 (2 * (iN x0) + 1))) rfl ?_
        refine rd_S (As := [.int (nI ((up2 S 10 (2 * iN x0 + iN x1) (bN b)) 10 (2 * (iN x0)) + 2 * (up2 S 10 (2 * iN x0 + iN x1) (bN b)) 10 (2 * (iN x0) + 1)))]) (rest := []) ⟨hx, hb, hml, hown, hts⟩ (k_X3_bits l ((up2 S 10 (2 * iN x0 + iN x1) (bN b)) 10 (2 * (iN x0)) + 2 * (up2 S 10 (2 * iN x0 + iN x1) (bN b)) 10 (2 * (iN x0) + 1)) (by have a1 := g2 (2 * iN x0); have a2 := g2 (2 * iN x0 + 1); omega)) (va_cwS 1 hts gX3_turn_X3_bits rfl rfl rfl (by decide +kernel) ⟨by decide, by decide⟩) rfl hl.1 rfl (Nat.le_of_ble_eq_true rfl) dX3_turn_74 ⟨Nat.zero_le _, Nat.zero_le _⟩ ?_
        exact W.iret (v := nI (pop ((up2 S 10 (2 * iN x0 + iN x1) (bN b)) 10 (2 * (iN x0)) + 2 * (up2 S 10 (2 * iN x0 + iN x1) (bN b)) 10 (2 * (iN x0) + 1)))) hx hb hr (fun t ht hW => ⟨⟨_, ((up2 (up2 S 10 (2 * iN x0 + iN x1) (bN b)) 0 4 ((S 0 4) + 1)), (up2 Z 0 0 0)), rfl, ⟨fun _ => congrArg nI (pop_2 _ (by have a1 := g2 (2 * iN x0); exact Nat.lt_succ_of_le a1) _ (by have a2 := g2 (2 * iN x0 + 1); exact Nat.lt_succ_of_le a2)), (nS_0 (cd1_0 (by unfold okT; omega))).symm, by rw [show cd1 (okT S x0 x1) = 0 from cd1_0 (by unfold okT; omega)]⟩, by rw [ht]; exact hP, hD⟩, hS.F ht⟩) hS.2.2 dX3_turn_77
      · exact absurd h_36 (by decide)
    · skip
      refine lv_iconst (v := nI 1) hx hb dX3_turn_24 (by decide) ?_
      refine lv_goto (tgt := 29) hx hb dX3_turn_25 (by decide) ?_
      refine va_put (D := D) (v := .int (nI 1)) (ty := .int) hx hb hts hin_X3 tyX3 tyX3_ok nmX3 hown hX.1 hP hD hS 0 rfl rfl 0 (by decide) hf_59 (fun _ h9 => h9) rfl (by decide +kernel) rfl rfl (Nat.le_of_ble_eq_true rfl) dX3_turn_29 (fun H locs hP hD hS => ?_)
      have hP : va_P D vwCl (wM q k S (up2 Z 0 0 1)) H := sP_M0_0 hP
      have hD : va_D A (wM q k S (up2 Z 0 0 1)) := sD_M0_0 hD
      refine lv_aload_n hx hb dX3_turn_32 rfl (lv_at hl 0 rfl) ?_
      refine va_get (D := D) (v := .int (nI 1)) hx hb hts hin_X3 hown hX.1 hP 0 rfl rfl 0 (by decide) hf_59 (fun _ h9 => h9) rfl dX3_turn_33 ?_
      refine na_if_le (tgt := 41) hx hb (by omega) dX3_turn_36 (by decide) (fun h_36 => ?_) (fun h_36 => ?_)
      · exact absurd h_36 (by decide)
      · skip
        refine lv_iconst (v := nI 0) hx hb dX3_turn_39 (by decide) ?_
        exact W.iret (v := nI 0) hx hb hr (fun t ht hW => ⟨⟨_, (S, (up2 Z 0 0 1)), rfl, (have hc : cd1 (okT S x0 x1) = 1 := cd1_1 (ok := okT S x0 x1) (fun q => by unfold okT at q; first | (have z := inp_f (by omega) h_12; omega) | (have z := in_f (by decide) (by decide) h_21; omega)); ⟨fun q => absurd (hc.symm.trans q) (by decide), (nS_n (by rw [hc]; decide)).symm, by rw [hc]⟩), by rw [ht]; exact hP, hD⟩, hS.F ht⟩) hS.2.2 dX3_turn_40

set_option maxHeartbeats 4000000 in
set_option maxRecDepth 100000 in
theorem k_X3_width (l : Launch) (D : va_G) (q : Nat → Nat) (k : Nat → ClassId) (S Z : Nat → Nat → Nat) (sz : Nat) (x0 : Int32) (x1 : Int32) (hB : Bd S) : Met l yX3_width wsX3_width ({ frames := 2, cells := 0, slots := 0, locals := 43 } : Room) (va_Pc [.ref (q 0), .int x0, .int x1] (wB D k (wM q k S Z) sz)) (va_Qv (fun (u : (Nat → Nat → Nat) × (Nat → Nat → Nat)) => u.1 = nS (cd1 (okW S x0 x1)) S (wiS S (iN x0) (iN x1)) ∧ u.2 = up2 Z 0 0 (cd1 (okW S x0 x1))) (fun u t => wE D (va_A (wM q k S Z) sz) (wM q k u.1 u.2) t) (va_A (wM q k S Z) sz)) 0 0 (va_A (wM q k S Z) sz) := by
  refine Met.ofW (cc := cX3_width) (maxL := 3) (ret := none) (by decide) rfl ?_
  intro p e s m args below meth c s₁ B hml hv
  obtain ⟨rfl, hsz, hP, hX, hD0⟩ := hv
  have hx := B.exec
  have hb := B.bytes
  have hr := B.returns
  have hts := atoms_spec (ws := wsX3_width) B.pre
  have hown : s.vm.findClass RX3 = some m.cls := findClass_of_methodNamed B.named
  have hlocks := B.notSynchronized
  subst hsz
  have hD := hD0.self (sz := s.heap.size)
  generalize hAe : va_A (wM q k S Z) s.heap.size = A at hD ⊢
  have hA : ∀ q : Nat, s.heap.size ≤ q → A q := fun q h => by rw [← hAe]; exact Or.inr h
  have hS : va_S A s.heap s.heap [] := va_S.rf
  have hP : va_P D vwCl (wM q k S Z) s.heap := hP
  have hf_16 := hts (.fieldLink RX3 16 "FloorGraphModel" "wide" "[I") (by decide +kernel)
  have hf_59 := hts (.fieldLink RX3 59 "FloorGraphModel" "code" "I") (by decide +kernel)
  have hf_70 := hts (.fieldLink RX3 70 "FloorGraphModel" "changes" "I") (by decide +kernel)
  have hin_X3 : ∀ w ∈ u_ws RX3 TX3 24, w ∈ wsX3_width := by decide +kernel
  have f0 := hB.1
  have hl := lv_entry ([.ref (q 0), .int x0, .int x1]) (n := 3) (Nat.le_of_ble_eq_true rfl)
  rw [lg_entry_eq]
  generalize (lg_sl ([.ref (q 0), .int x0, .int x1]) ++ List.replicate (3 - (lg_sl ([.ref (q 0), .int x0, .int x1])).length) Slot.unset).toArray = ls at hl ⊢
  have hl : lv_has ls 3 [(0, .ref (q 0)), (1, .int x0), (2, .int x1)] := hl
  refine lv_aload_n hx hb dX3_width_0 rfl (lv_at hl 0 rfl) ?_
  refine lv_aload_n hx hb dX3_width_1 rfl (lv_at hl 0 rfl) ?_
  refine lv_iload_n hx hb dX3_width_2 rfl (lv_at hl 1 rfl) ?_
  refine rd_V (As := [.int x0]) (rest := [.ref (q 0)]) ⟨hx, hb, hml, hown, hts⟩ (k_X3_isPiece l D q k S Z x0 (by omega)) (cwV 1 hts gX3_width_X3_isPiece rfl rfl rfl (by decide +kernel) ⟨by decide, by decide⟩) hX hP (q0 := 0) rfl rfl rfl hl.1 rfl (Nat.le_of_ble_eq_true rfl) dX3_width_3 ⟨Nat.zero_le _, Nat.zero_le _⟩ ?_
  refine na_if_eq (tgt := 20) hx hb (bN_lt _) dX3_width_6 (by decide) (fun h_6 => ?_) (fun h_6 => ?_)
  · skip
    refine lv_iconst (v := nI 1) hx hb dX3_width_20 (by decide) ?_
    refine lv_goto (tgt := 25) hx hb dX3_width_21 (by decide) ?_
    refine va_put (D := D) (v := .int (nI 1)) (ty := .int) hx hb hts hin_X3 tyX3 tyX3_ok nmX3 hown hX.1 hP hD hS 0 rfl rfl 0 (by decide) hf_59 (fun _ h9 => h9) rfl (by decide +kernel) rfl rfl (Nat.le_of_ble_eq_true rfl) dX3_width_25 (fun H locs hP hD hS => ?_)
    have hP : va_P D vwCl (wM q k S (up2 Z 0 0 1)) H := sP_M0_0 hP
    have hD : va_D A (wM q k S (up2 Z 0 0 1)) := sD_M0_0 hD
    refine lv_aload_n hx hb dX3_width_28 rfl (lv_at hl 0 rfl) ?_
    refine va_get (D := D) (v := .int (nI 1)) hx hb hts hin_X3 hown hX.1 hP 0 rfl rfl 0 (by decide) hf_59 (fun _ h9 => h9) rfl dX3_width_29 ?_
    refine na_if_le (tgt := 36) hx hb (by omega) dX3_width_32 (by decide) (fun h_32 => ?_) (fun h_32 => ?_)
    · exact absurd h_32 (by decide)
    · skip
      exact W.vret hx hb hr (fun t ht hW => ⟨⟨(S, (up2 Z 0 0 1)), rfl, (have hc : cd1 (okW S x0 x1) = 1 := cd1_1 (ok := okW S x0 x1) (fun q => by unfold okW isPc at q; first | (have z := isp_f h_6; omega) | (have z := in_f (by decide) (by decide) h_17; omega)); ⟨(nS_n (by rw [hc]; decide)).symm, by rw [hc]⟩), by rw [ht]; exact hP, hD⟩, hS.F ht⟩) hS.2.2 dX3_width_35
  · skip
    refine lv_iload_n hx hb dX3_width_9 rfl (lv_at hl 2 rfl) ?_
    refine lv_iconst (v := nI 1) hx hb dX3_width_10 (by decide) ?_
    refine lv_sipush (v := nI 500) hx hb dX3_width_11 (by decide) ?_
    refine rd_S (As := [.int x1, .int (nI 1), .int (nI 500)]) (rest := [.ref (q 0)]) ⟨hx, hb, hml, hown, hts⟩ (k_X3_in l x1 (nI 1) (nI 500) ) (va_cwS 3 hts gX3_width_X3_in rfl rfl rfl (by decide +kernel) ⟨by decide, by decide⟩) rfl hl.1 rfl (Nat.le_of_ble_eq_true rfl) dX3_width_14 ⟨Nat.zero_le _, Nat.zero_le _⟩ ?_
    refine na_if_ne (tgt := 24) hx hb (bN_lt _) dX3_width_17 (by decide) (fun h_17 => ?_) (fun h_17 => ?_)
    · skip
      refine lv_iconst (v := nI 0) hx hb dX3_width_24 (by decide) ?_
      refine va_put (D := D) (v := .int (nI 0)) (ty := .int) hx hb hts hin_X3 tyX3 tyX3_ok nmX3 hown hX.1 hP hD hS 0 rfl rfl 0 (by decide) hf_59 (fun _ h9 => h9) rfl (by decide +kernel) rfl rfl (Nat.le_of_ble_eq_true rfl) dX3_width_25 (fun H locs hP hD hS => ?_)
      have hP : va_P D vwCl (wM q k S (up2 Z 0 0 0)) H := sP_M0_0 hP
      have hD : va_D A (wM q k S (up2 Z 0 0 0)) := sD_M0_0 hD
      refine lv_aload_n hx hb dX3_width_28 rfl (lv_at hl 0 rfl) ?_
      refine va_get (D := D) (v := .int (nI 0)) hx hb hts hin_X3 hown hX.1 hP 0 rfl rfl 0 (by decide) hf_59 (fun _ h9 => h9) rfl dX3_width_29 ?_
      refine na_if_le (tgt := 36) hx hb (by omega) dX3_width_32 (by decide) (fun h_32 => ?_) (fun h_32 => ?_)
      · skip
        have i0 := isp_t h_6
        have i1 := in_t (by decide) (by decide) h_17
        have j0 := iN_toInt (x := x0) (by omega)
        have j1 := iN_toInt (x := x1) (by omega)
        refine lv_aload_n hx hb dX3_width_36 rfl (lv_at hl 0 rfl) ?_
        refine va_get (D := D) (v := .ref (q 3)) hx hb hts hin_X3 hown hX.1 hP 0 rfl rfl 4 (by decide) hf_16 (fun _ h9 => h9) rfl dX3_width_37 ?_
        refine lv_iload_n hx hb dX3_width_40 rfl (lv_at hl 1 rfl) ?_
        refine na_as (y := nI (iN x0)) (iN_eq (by omega)) ?_
        refine lv_iload_n hx hb dX3_width_41 rfl (lv_at hl 2 rfl) ?_
        refine na_as (y := nI (iN x1)) (iN_eq (by omega)) ?_
        refine na_iast hx hb hX.1 hP hD hS 3 0 rfl rfl (by omega) (by decide) (upd_enc nI _ _ _) dX3_width_42 (fun H locs hP hD hS => ?_)
        have hP : va_P D vwCl (wM q k (up2 S 3 (iN x0) (iN x1)) (up2 Z 0 0 0)) H := sP_M3 hP
        have hD : va_D A (wM q k (up2 S 3 (iN x0) (iN x1)) (up2 Z 0 0 0)) := sD_M3 hD
        refine lv_aload_n hx hb dX3_width_43 rfl (lv_at hl 0 rfl) ?_
        refine lv_dup hx hb dX3_width_44 rfl ?_
        refine va_get (D := D) (v := .int (nI (S 0 4))) hx hb hts hin_X3 hown hX.1 hP 0 rfl rfl 17 (by decide) hf_70 (fun _ h9 => h9) rfl dX3_width_45 ?_
        refine lv_iconst (v := nI 1) hx hb dX3_width_48 (by decide) ?_
        refine na_iadd hx hb dX3_width_49 ?_
        refine va_put (D := D) (v := .int (nI ((S 0 4) + 1))) (ty := .int) hx hb hts hin_X3 tyX3 tyX3_ok nmX3 hown hX.1 hP hD hS 0 rfl rfl 17 (by decide) hf_70 (fun _ h9 => h9) rfl (by decide +kernel) rfl rfl (Nat.le_of_ble_eq_true rfl) dX3_width_50 (fun H locs hP hD hS => ?_)
        have hP : va_P D vwCl (wM q k (up2 (up2 S 3 (iN x0) (iN x1)) 0 4 ((S 0 4) + 1)) (up2 Z 0 0 0)) H := sP_M0_17 hP
        have hD : va_D A (wM q k (up2 (up2 S 3 (iN x0) (iN x1)) 0 4 ((S 0 4) + 1)) (up2 Z 0 0 0)) := sD_M0_17 hD
        exact W.vret hx hb hr (fun t ht hW => ⟨⟨((up2 (up2 S 3 (iN x0) (iN x1)) 0 4 ((S 0 4) + 1)), (up2 Z 0 0 0)), rfl, ⟨(nS_0 (cd1_0 (by unfold okW isPc; omega))).symm, by rw [show cd1 (okW S x0 x1) = 0 from cd1_0 (by unfold okW isPc; omega)]⟩, by rw [ht]; exact hP, hD⟩, hS.F ht⟩) hS.2.2 dX3_width_53
      · exact absurd h_32 (by decide)
    · skip
      refine lv_iconst (v := nI 1) hx hb dX3_width_20 (by decide) ?_
      refine lv_goto (tgt := 25) hx hb dX3_width_21 (by decide) ?_
      refine va_put (D := D) (v := .int (nI 1)) (ty := .int) hx hb hts hin_X3 tyX3 tyX3_ok nmX3 hown hX.1 hP hD hS 0 rfl rfl 0 (by decide) hf_59 (fun _ h9 => h9) rfl (by decide +kernel) rfl rfl (Nat.le_of_ble_eq_true rfl) dX3_width_25 (fun H locs hP hD hS => ?_)
      have hP : va_P D vwCl (wM q k S (up2 Z 0 0 1)) H := sP_M0_0 hP
      have hD : va_D A (wM q k S (up2 Z 0 0 1)) := sD_M0_0 hD
      refine lv_aload_n hx hb dX3_width_28 rfl (lv_at hl 0 rfl) ?_
      refine va_get (D := D) (v := .int (nI 1)) hx hb hts hin_X3 hown hX.1 hP 0 rfl rfl 0 (by decide) hf_59 (fun _ h9 => h9) rfl dX3_width_29 ?_
      refine na_if_le (tgt := 36) hx hb (by omega) dX3_width_32 (by decide) (fun h_32 => ?_) (fun h_32 => ?_)
      · exact absurd h_32 (by decide)
      · skip
        exact W.vret hx hb hr (fun t ht hW => ⟨⟨(S, (up2 Z 0 0 1)), rfl, (have hc : cd1 (okW S x0 x1) = 1 := cd1_1 (ok := okW S x0 x1) (fun q => by unfold okW isPc at q; first | (have z := isp_f h_6; omega) | (have z := in_f (by decide) (by decide) h_17; omega)); ⟨(nS_n (by rw [hc]; decide)).symm, by rw [hc]⟩), by rw [ht]; exact hP, hD⟩, hS.F ht⟩) hS.2.2 dX3_width_35

set_option maxHeartbeats 4000000 in
set_option maxRecDepth 100000 in
theorem k_X3_zone (l : Launch) (D : va_G) (q : Nat → Nat) (k : Nat → ClassId) (S Z : Nat → Nat → Nat) (sz : Nat) (x0 : Int32) (x1 : Int32) (b : Bool) (hB : Bd S) : Met l yX3_zone wsX3_zone ({ frames := 2, cells := 0, slots := 0, locals := 43 } : Room) (va_Pc [.ref (q 0), .int x0, .int x1, .int (nI (bN b))] (wB D k (wM q k S Z) sz)) (va_Qi (fun (r : Int32) (u : (Nat → Nat → Nat) × (Nat → Nat → Nat)) => (cd1 (okZ S x0 x1) = 0 → r = nI (pop (wb (S 6 (iN x0)) (iN x1) b))) ∧ u.1 = nS (cd1 (okZ S x0 x1)) S (zoS S (iN x0) (iN x1) b) ∧ u.2 = up2 Z 0 0 (cd1 (okZ S x0 x1))) (fun u t => wE D (va_A (wM q k S Z) sz) (wM q k u.1 u.2) t) (va_A (wM q k S Z) sz)) 0 0 (va_A (wM q k S Z) sz) := by
  refine Met.ofW (cc := cX3_zone) (maxL := 4) (ret := (some .int)) (by decide) rfl ?_
  intro p e s m args below meth c s₁ B hml hv
  obtain ⟨rfl, hsz, hP, hX, hD0⟩ := hv
  have hx := B.exec
  have hb := B.bytes
  have hr := B.returns
  have hts := atoms_spec (ws := wsX3_zone) B.pre
  have hown : s.vm.findClass RX3 = some m.cls := findClass_of_methodNamed B.named
  have hlocks := B.notSynchronized
  subst hsz
  have hD := hD0.self (sz := s.heap.size)
  generalize hAe : va_A (wM q k S Z) s.heap.size = A at hD ⊢
  have hA : ∀ q : Nat, s.heap.size ≤ q → A q := fun q h => by rw [← hAe]; exact Or.inr h
  have hS : va_S A s.heap s.heap [] := va_S.rf
  have hP : va_P D vwCl (wM q k S Z) s.heap := hP
  have hf_26 := hts (.fieldLink RX3 26 "FloorGraphModel" "zones" "[I") (by decide +kernel)
  have hf_59 := hts (.fieldLink RX3 59 "FloorGraphModel" "code" "I") (by decide +kernel)
  have hf_70 := hts (.fieldLink RX3 70 "FloorGraphModel" "changes" "I") (by decide +kernel)
  have hin_X3 : ∀ w ∈ u_ws RX3 TX3 24, w ∈ wsX3_zone := by decide +kernel
  have f0 := hB.1
  have hl := lv_entry ([.ref (q 0), .int x0, .int x1, .int (nI (bN b))]) (n := 4) (Nat.le_of_ble_eq_true rfl)
  rw [lg_entry_eq]
  generalize (lg_sl ([.ref (q 0), .int x0, .int x1, .int (nI (bN b))]) ++ List.replicate (4 - (lg_sl ([.ref (q 0), .int x0, .int x1, .int (nI (bN b))])).length) Slot.unset).toArray = ls at hl ⊢
  have hl : lv_has ls 4 [(0, .ref (q 0)), (1, .int x0), (2, .int x1), (3, .int (nI (bN b)))] := hl
  refine lv_aload_n hx hb dX3_zone_0 rfl (lv_at hl 0 rfl) ?_
  refine lv_aload_n hx hb dX3_zone_1 rfl (lv_at hl 0 rfl) ?_
  refine lv_iload_n hx hb dX3_zone_2 rfl (lv_at hl 1 rfl) ?_
  refine rd_V (As := [.int x0]) (rest := [.ref (q 0)]) ⟨hx, hb, hml, hown, hts⟩ (k_X3_isPiece l D q k S Z x0 (by omega)) (cwV 1 hts gX3_zone_X3_isPiece rfl rfl rfl (by decide +kernel) ⟨by decide, by decide⟩) hX hP (q0 := 0) rfl rfl rfl hl.1 rfl (Nat.le_of_ble_eq_true rfl) dX3_zone_3 ⟨Nat.zero_le _, Nat.zero_le _⟩ ?_
  refine na_if_eq (tgt := 19) hx hb (bN_lt _) dX3_zone_6 (by decide) (fun h_6 => ?_) (fun h_6 => ?_)
  · skip
    refine lv_iconst (v := nI 1) hx hb dX3_zone_19 (by decide) ?_
    refine lv_goto (tgt := 24) hx hb dX3_zone_20 (by decide) ?_
    refine va_put (D := D) (v := .int (nI 1)) (ty := .int) hx hb hts hin_X3 tyX3 tyX3_ok nmX3 hown hX.1 hP hD hS 0 rfl rfl 0 (by decide) hf_59 (fun _ h9 => h9) rfl (by decide +kernel) rfl rfl (Nat.le_of_ble_eq_true rfl) dX3_zone_24 (fun H locs hP hD hS => ?_)
    have hP : va_P D vwCl (wM q k S (up2 Z 0 0 1)) H := sP_M0_0 hP
    have hD : va_D A (wM q k S (up2 Z 0 0 1)) := sD_M0_0 hD
    refine lv_aload_n hx hb dX3_zone_27 rfl (lv_at hl 0 rfl) ?_
    refine va_get (D := D) (v := .int (nI 1)) hx hb hts hin_X3 hown hX.1 hP 0 rfl rfl 0 (by decide) hf_59 (fun _ h9 => h9) rfl dX3_zone_28 ?_
    refine na_if_le (tgt := 36) hx hb (by omega) dX3_zone_31 (by decide) (fun h_31 => ?_) (fun h_31 => ?_)
    · exact absurd h_31 (by decide)
    · skip
      refine lv_iconst (v := nI 0) hx hb dX3_zone_34 (by decide) ?_
      exact W.iret (v := nI 0) hx hb hr (fun t ht hW => ⟨⟨_, (S, (up2 Z 0 0 1)), rfl, (have hc : cd1 (okZ S x0 x1) = 1 := cd1_1 (ok := okZ S x0 x1) (fun q => by unfold okZ isPc at q; first | (have z := isp_f h_6; omega) | (have z := in_f (by decide) (by decide) h_16; omega)); ⟨fun q => absurd (hc.symm.trans q) (by decide), (nS_n (by rw [hc]; decide)).symm, by rw [hc]⟩), by rw [ht]; exact hP, hD⟩, hS.F ht⟩) hS.2.2 dX3_zone_35
  · skip
    refine lv_iload_n hx hb dX3_zone_9 rfl (lv_at hl 2 rfl) ?_
    refine lv_iconst (v := nI 0) hx hb dX3_zone_10 (by decide) ?_
    refine lv_bipush (v := nI 23) hx hb dX3_zone_11 (by decide) ?_
    refine rd_S (As := [.int x1, .int (nI 0), .int (nI 23)]) (rest := [.ref (q 0)]) ⟨hx, hb, hml, hown, hts⟩ (k_X3_in l x1 (nI 0) (nI 23) ) (va_cwS 3 hts gX3_zone_X3_in rfl rfl rfl (by decide +kernel) ⟨by decide, by decide⟩) rfl hl.1 rfl (Nat.le_of_ble_eq_true rfl) dX3_zone_13 ⟨Nat.zero_le _, Nat.zero_le _⟩ ?_
    refine na_if_ne (tgt := 23) hx hb (bN_lt _) dX3_zone_16 (by decide) (fun h_16 => ?_) (fun h_16 => ?_)
    · skip
      refine lv_iconst (v := nI 0) hx hb dX3_zone_23 (by decide) ?_
      refine va_put (D := D) (v := .int (nI 0)) (ty := .int) hx hb hts hin_X3 tyX3 tyX3_ok nmX3 hown hX.1 hP hD hS 0 rfl rfl 0 (by decide) hf_59 (fun _ h9 => h9) rfl (by decide +kernel) rfl rfl (Nat.le_of_ble_eq_true rfl) dX3_zone_24 (fun H locs hP hD hS => ?_)
      have hP : va_P D vwCl (wM q k S (up2 Z 0 0 0)) H := sP_M0_0 hP
      have hD : va_D A (wM q k S (up2 Z 0 0 0)) := sD_M0_0 hD
      refine lv_aload_n hx hb dX3_zone_27 rfl (lv_at hl 0 rfl) ?_
      refine va_get (D := D) (v := .int (nI 0)) hx hb hts hin_X3 hown hX.1 hP 0 rfl rfl 0 (by decide) hf_59 (fun _ h9 => h9) rfl dX3_zone_28 ?_
      refine na_if_le (tgt := 36) hx hb (by omega) dX3_zone_31 (by decide) (fun h_31 => ?_) (fun h_31 => ?_)
      · skip
        have i0 := isp_t h_6
        have i1 := in_t (by decide) (by decide) h_16
        have j0 := iN_toInt (x := x0) (by omega)
        have j1 := iN_toInt (x := x1) (by omega)
        have g6 := (hB.2.1 (iN x0)).2.2.2.2.2
        have gw := (wb_ok b g6 (show iN x1 < 24 by omega)).2
        refine lv_aload_n hx hb dX3_zone_36 rfl (lv_at hl 0 rfl) ?_
        refine va_get (D := D) (v := .ref (q 6)) hx hb hts hin_X3 hown hX.1 hP 0 rfl rfl 7 (by decide) hf_26 (fun _ h9 => h9) rfl dX3_zone_37 ?_
        refine lv_iload_n hx hb dX3_zone_40 rfl (lv_at hl 1 rfl) ?_
        refine na_as (y := nI (iN x0)) (iN_eq (by omega)) ?_
        refine lv_aload_n hx hb dX3_zone_41 rfl (lv_at hl 0 rfl) ?_
        refine va_get (D := D) (v := .ref (q 6)) hx hb hts hin_X3 hown hX.1 hP 0 rfl rfl 7 (by decide) hf_26 (fun _ h9 => h9) rfl dX3_zone_42 ?_
        refine lv_iload_n hx hb dX3_zone_45 rfl (lv_at hl 1 rfl) ?_
        refine na_as (y := nI (iN x0)) (iN_eq (by omega)) ?_
        refine na_iald hx hb hX.1 hP 6 0 rfl rfl (by omega) (by decide) dX3_zone_46 ?_
        refine lv_iload_n hx hb dX3_zone_47 rfl (lv_at hl 2 rfl) ?_
        refine na_as (y := nI (iN x1)) (iN_eq (by omega)) ?_
        refine lv_iload_n hx hb dX3_zone_48 rfl (lv_at hl 3 rfl) ?_
        refine rd_S (As := [.int (nI (S 6 (iN x0))), .int (nI (iN x1)), .int (nI (bN b))]) (rest := [.int (nI (iN x0)), .ref (q 6)]) ⟨hx, hb, hml, hown, hts⟩ (k_X3_with l (S 6 (iN x0)) (iN x1) b g6 (by omega)) (va_cwS 3 hts gX3_zone_X3_with rfl rfl rfl (by decide +kernel) ⟨by decide, by decide⟩) rfl hl.1 rfl (Nat.le_of_ble_eq_true rfl) dX3_zone_49 ⟨Nat.zero_le _, Nat.zero_le _⟩ ?_
        refine na_iast hx hb hX.1 hP hD hS 6 0 rfl rfl (by omega) (by decide) (upd_enc nI _ _ _) dX3_zone_52 (fun H locs hP hD hS => ?_)
        have hP : va_P D vwCl (wM q k (up2 S 6 (iN x0) (wb (S 6 (iN x0)) (iN x1) b)) (up2 Z 0 0 0)) H := sP_M6 hP
        have hD : va_D A (wM q k (up2 S 6 (iN x0) (wb (S 6 (iN x0)) (iN x1) b)) (up2 Z 0 0 0)) := sD_M6 hD
        refine lv_aload_n hx hb dX3_zone_53 rfl (lv_at hl 0 rfl) ?_
        refine lv_dup hx hb dX3_zone_54 rfl ?_
        refine va_get (D := D) (v := .int (nI (S 0 4))) hx hb hts hin_X3 hown hX.1 hP 0 rfl rfl 17 (by decide) hf_70 (fun _ h9 => h9) rfl dX3_zone_55 ?_
        refine lv_iconst (v := nI 1) hx hb dX3_zone_58 (by decide) ?_
        refine na_iadd hx hb dX3_zone_59 ?_
        refine va_put (D := D) (v := .int (nI ((S 0 4) + 1))) (ty := .int) hx hb hts hin_X3 tyX3 tyX3_ok nmX3 hown hX.1 hP hD hS 0 rfl rfl 17 (by decide) hf_70 (fun _ h9 => h9) rfl (by decide +kernel) rfl rfl (Nat.le_of_ble_eq_true rfl) dX3_zone_60 (fun H locs hP hD hS => ?_)
        have hP : va_P D vwCl (wM q k (up2 (up2 S 6 (iN x0) (wb (S 6 (iN x0)) (iN x1) b)) 0 4 ((S 0 4) + 1)) (up2 Z 0 0 0)) H := sP_M0_17 hP
        have hD : va_D A (wM q k (up2 (up2 S 6 (iN x0) (wb (S 6 (iN x0)) (iN x1) b)) 0 4 ((S 0 4) + 1)) (up2 Z 0 0 0)) := sD_M0_17 hD
        refine lv_aload_n hx hb dX3_zone_63 rfl (lv_at hl 0 rfl) ?_
        refine va_get (D := D) (v := .ref (q 6)) hx hb hts hin_X3 hown hX.1 hP 0 rfl rfl 7 (by decide) hf_26 (fun _ h9 => h9) rfl dX3_zone_64 ?_
        refine lv_iload_n hx hb dX3_zone_67 rfl (lv_at hl 1 rfl) ?_
        refine na_as (y := nI (iN x0)) (iN_eq (by omega)) ?_
        refine na_iald hx hb hX.1 hP 6 0 rfl rfl (by omega) (by decide) dX3_zone_68 ?_
        refine na_as (y := nI ((up2 S 6 (iN x0) (wb (S 6 (iN x0)) (iN x1) b)) 6 (iN x0))) rfl ?_
        refine rd_S (As := [.int (nI ((up2 S 6 (iN x0) (wb (S 6 (iN x0)) (iN x1) b)) 6 (iN x0)))]) (rest := []) ⟨hx, hb, hml, hown, hts⟩ (k_X3_bits l ((up2 S 6 (iN x0) (wb (S 6 (iN x0)) (iN x1) b)) 6 (iN x0)) (by rw [up2_same]; exact gw)) (va_cwS 1 hts gX3_zone_X3_bits rfl rfl rfl (by decide +kernel) ⟨by decide, by decide⟩) rfl hl.1 rfl (Nat.le_of_ble_eq_true rfl) dX3_zone_69 ⟨Nat.zero_le _, Nat.zero_le _⟩ ?_
        exact W.iret (v := nI (pop ((up2 S 6 (iN x0) (wb (S 6 (iN x0)) (iN x1) b)) 6 (iN x0)))) hx hb hr (fun t ht hW => ⟨⟨_, ((up2 (up2 S 6 (iN x0) (wb (S 6 (iN x0)) (iN x1) b)) 0 4 ((S 0 4) + 1)), (up2 Z 0 0 0)), rfl, ⟨fun _ => congrArg (fun v => nI (pop v)) (up2_same _ _ _ _), (nS_0 (cd1_0 (by unfold okZ isPc; omega))).symm, by rw [show cd1 (okZ S x0 x1) = 0 from cd1_0 (by unfold okZ isPc; omega)]⟩, by rw [ht]; exact hP, hD⟩, hS.F ht⟩) hS.2.2 dX3_zone_72
      · exact absurd h_31 (by decide)
    · skip
      refine lv_iconst (v := nI 1) hx hb dX3_zone_19 (by decide) ?_
      refine lv_goto (tgt := 24) hx hb dX3_zone_20 (by decide) ?_
      refine va_put (D := D) (v := .int (nI 1)) (ty := .int) hx hb hts hin_X3 tyX3 tyX3_ok nmX3 hown hX.1 hP hD hS 0 rfl rfl 0 (by decide) hf_59 (fun _ h9 => h9) rfl (by decide +kernel) rfl rfl (Nat.le_of_ble_eq_true rfl) dX3_zone_24 (fun H locs hP hD hS => ?_)
      have hP : va_P D vwCl (wM q k S (up2 Z 0 0 1)) H := sP_M0_0 hP
      have hD : va_D A (wM q k S (up2 Z 0 0 1)) := sD_M0_0 hD
      refine lv_aload_n hx hb dX3_zone_27 rfl (lv_at hl 0 rfl) ?_
      refine va_get (D := D) (v := .int (nI 1)) hx hb hts hin_X3 hown hX.1 hP 0 rfl rfl 0 (by decide) hf_59 (fun _ h9 => h9) rfl dX3_zone_28 ?_
      refine na_if_le (tgt := 36) hx hb (by omega) dX3_zone_31 (by decide) (fun h_31 => ?_) (fun h_31 => ?_)
      · exact absurd h_31 (by decide)
      · skip
        refine lv_iconst (v := nI 0) hx hb dX3_zone_34 (by decide) ?_
        exact W.iret (v := nI 0) hx hb hr (fun t ht hW => ⟨⟨_, (S, (up2 Z 0 0 1)), rfl, (have hc : cd1 (okZ S x0 x1) = 1 := cd1_1 (ok := okZ S x0 x1) (fun q => by unfold okZ isPc at q; first | (have z := isp_f h_6; omega) | (have z := in_f (by decide) (by decide) h_16; omega)); ⟨fun q => absurd (hc.symm.trans q) (by decide), (nS_n (by rw [hc]; decide)).symm, by rw [hc]⟩), by rw [ht]; exact hP, hD⟩, hS.F ht⟩) hS.2.2 dX3_zone_35

set_option maxHeartbeats 4000000 in
set_option maxRecDepth 100000 in
theorem k_X3_closed (l : Launch) (D : va_G) (q : Nat → Nat) (k : Nat → ClassId) (S Z : Nat → Nat → Nat) (sz : Nat) (x0 : Int32) (b : Bool) (hB : Bd S) : Met l yX3_closed wsX3_closed ({ frames := 2, cells := 0, slots := 0, locals := 43 } : Room) (va_Pc [.ref (q 0), .int x0, .int (nI (bN b))] (wB D k (wM q k S Z) sz)) (va_Qi (fun (r : Int32) (u : (Nat → Nat → Nat) × (Nat → Nat → Nat)) => (cd1 (isPc S x0) = 0 → r = nI (sm (clS S (iN x0) (bN b) 5) 0 (S 0 0))) ∧ u.1 = nS (cd1 (isPc S x0)) S (clS S (iN x0) (bN b)) ∧ u.2 = up2 Z 0 0 (cd1 (isPc S x0))) (fun u t => wE D (va_A (wM q k S Z) sz) (wM q k u.1 u.2) t) (va_A (wM q k S Z) sz)) 0 0 (va_A (wM q k S Z) sz) := by
  refine Met.ofW (cc := cX3_closed) (maxL := 5) (ret := (some .int)) (by decide) rfl ?_
  intro p e s m args below meth c s₁ B hml hv
  obtain ⟨rfl, hsz, hP, hX, hD0⟩ := hv
  have hx := B.exec
  have hb := B.bytes
  have hr := B.returns
  have hts := atoms_spec (ws := wsX3_closed) B.pre
  have hown : s.vm.findClass RX3 = some m.cls := findClass_of_methodNamed B.named
  have hlocks := B.notSynchronized
  subst hsz
  have hD := hD0.self (sz := s.heap.size)
  generalize hAe : va_A (wM q k S Z) s.heap.size = A at hD ⊢
  have hA : ∀ q : Nat, s.heap.size ≤ q → A q := fun q h => by rw [← hAe]; exact Or.inr h
  have hS : va_S A s.heap s.heap [] := va_S.rf
  have hP : va_P D vwCl (wM q k S Z) s.heap := hP
  have hf_23 := hts (.fieldLink RX3 23 "FloorGraphModel" "shut" "[Z") (by decide +kernel)
  have hf_59 := hts (.fieldLink RX3 59 "FloorGraphModel" "code" "I") (by decide +kernel)
  have hf_63 := hts (.fieldLink RX3 63 "FloorGraphModel" "pieces" "I") (by decide +kernel)
  have hf_70 := hts (.fieldLink RX3 70 "FloorGraphModel" "changes" "I") (by decide +kernel)
  have hin_X3 : ∀ w ∈ u_ws RX3 TX3 24, w ∈ wsX3_closed := by decide +kernel
  have f0 := hB.1
  have hl := lv_entry ([.ref (q 0), .int x0, .int (nI (bN b))]) (n := 5) (Nat.le_of_ble_eq_true rfl)
  rw [lg_entry_eq]
  generalize (lg_sl ([.ref (q 0), .int x0, .int (nI (bN b))]) ++ List.replicate (5 - (lg_sl ([.ref (q 0), .int x0, .int (nI (bN b))])).length) Slot.unset).toArray = ls at hl ⊢
  have hl : lv_has ls 5 [(0, .ref (q 0)), (1, .int x0), (2, .int (nI (bN b)))] := hl
  refine lv_aload_n hx hb dX3_closed_0 rfl (lv_at hl 0 rfl) ?_
  refine lv_aload_n hx hb dX3_closed_1 rfl (lv_at hl 0 rfl) ?_
  refine lv_iload_n hx hb dX3_closed_2 rfl (lv_at hl 1 rfl) ?_
  refine rd_V (As := [.int x0]) (rest := [.ref (q 0)]) ⟨hx, hb, hml, hown, hts⟩ (k_X3_isPiece l D q k S Z x0 (by omega)) (cwV 1 hts gX3_closed_X3_isPiece rfl rfl rfl (by decide +kernel) ⟨by decide, by decide⟩) hX hP (q0 := 0) rfl rfl rfl hl.1 rfl (Nat.le_of_ble_eq_true rfl) dX3_closed_3 ⟨Nat.zero_le _, Nat.zero_le _⟩ ?_
  refine na_if_eq (tgt := 13) hx hb (bN_lt _) dX3_closed_6 (by decide) (fun h_6 => ?_) (fun h_6 => ?_)
  · skip
    refine lv_iconst (v := nI 1) hx hb dX3_closed_13 (by decide) ?_
    refine va_put (D := D) (v := .int (nI 1)) (ty := .int) hx hb hts hin_X3 tyX3 tyX3_ok nmX3 hown hX.1 hP hD hS 0 rfl rfl 0 (by decide) hf_59 (fun _ h9 => h9) rfl (by decide +kernel) rfl rfl (Nat.le_of_ble_eq_true rfl) dX3_closed_14 (fun H locs hP hD hS => ?_)
    have hP : va_P D vwCl (wM q k S (up2 Z 0 0 1)) H := sP_M0_0 hP
    have hD : va_D A (wM q k S (up2 Z 0 0 1)) := sD_M0_0 hD
    refine lv_aload_n hx hb dX3_closed_17 rfl (lv_at hl 0 rfl) ?_
    refine va_get (D := D) (v := .int (nI 1)) hx hb hts hin_X3 hown hX.1 hP 0 rfl rfl 0 (by decide) hf_59 (fun _ h9 => h9) rfl dX3_closed_18 ?_
    refine na_if_le (tgt := 26) hx hb (by omega) dX3_closed_21 (by decide) (fun h_21 => ?_) (fun h_21 => ?_)
    · exact absurd h_21 (by decide)
    · skip
      refine lv_iconst (v := nI 0) hx hb dX3_closed_24 (by decide) ?_
      exact W.iret (v := nI 0) hx hb hr (fun t ht hW => ⟨⟨_, (S, (up2 Z 0 0 1)), rfl, (have hc : cd1 (isPc S x0) = 1 := cd1_1 (ok := isPc S x0) (fun q => by unfold isPc at q; first | (have z := isp_f h_6; omega)); ⟨fun q => absurd (hc.symm.trans q) (by decide), (nS_n (by rw [hc]; decide)).symm, by rw [hc]⟩), by rw [ht]; exact hP, hD⟩, hS.F ht⟩) hS.2.2 dX3_closed_25
  · skip
    refine lv_iconst (v := nI 0) hx hb dX3_closed_9 (by decide) ?_
    refine lv_goto (tgt := 14) hx hb dX3_closed_10 (by decide) ?_
    refine va_put (D := D) (v := .int (nI 0)) (ty := .int) hx hb hts hin_X3 tyX3 tyX3_ok nmX3 hown hX.1 hP hD hS 0 rfl rfl 0 (by decide) hf_59 (fun _ h9 => h9) rfl (by decide +kernel) rfl rfl (Nat.le_of_ble_eq_true rfl) dX3_closed_14 (fun H locs hP hD hS => ?_)
    have hP : va_P D vwCl (wM q k S (up2 Z 0 0 0)) H := sP_M0_0 hP
    have hD : va_D A (wM q k S (up2 Z 0 0 0)) := sD_M0_0 hD
    refine lv_aload_n hx hb dX3_closed_17 rfl (lv_at hl 0 rfl) ?_
    refine va_get (D := D) (v := .int (nI 0)) hx hb hts hin_X3 hown hX.1 hP 0 rfl rfl 0 (by decide) hf_59 (fun _ h9 => h9) rfl dX3_closed_18 ?_
    refine na_if_le (tgt := 26) hx hb (by omega) dX3_closed_21 (by decide) (fun h_21 => ?_) (fun h_21 => ?_)
    · skip
      have i0 := isp_t h_6
      have j0 := iN_toInt (x := x0) (by omega)
      have g5 := up2_le1 (S := S) (f := 5) (p := iN x0) (fun i => (hB.2.1 i).2.2.2.2.1) (bN_le b)
      refine lv_aload_n hx hb dX3_closed_26 rfl (lv_at hl 0 rfl) ?_
      refine va_get (D := D) (v := .ref (q 5)) hx hb hts hin_X3 hown hX.1 hP 0 rfl rfl 6 (by decide) hf_23 (fun _ h9 => h9) rfl dX3_closed_27 ?_
      refine lv_iload_n hx hb dX3_closed_30 rfl (lv_at hl 1 rfl) ?_
      refine na_as (y := nI (iN x0)) (iN_eq (by omega)) ?_
      refine lv_iload_n hx hb dX3_closed_31 rfl (lv_at hl 2 rfl) ?_
      refine na_zast hx hb hX.1 hP hD hS 5 1 rfl rfl (bN_le _) (by omega) (by decide) (upd_enc nI _ _ _) dX3_closed_32 (fun H locs hP hD hS => ?_)
      have hP : va_P D vwCl (wM q k (up2 S 5 (iN x0) (bN b)) (up2 Z 0 0 0)) H := sP_M5 hP
      have hD : va_D A (wM q k (up2 S 5 (iN x0) (bN b)) (up2 Z 0 0 0)) := sD_M5 hD
      refine lv_aload_n hx hb dX3_closed_33 rfl (lv_at hl 0 rfl) ?_
      refine lv_dup hx hb dX3_closed_34 rfl ?_
      refine va_get (D := D) (v := .int (nI (S 0 4))) hx hb hts hin_X3 hown hX.1 hP 0 rfl rfl 17 (by decide) hf_70 (fun _ h9 => h9) rfl dX3_closed_35 ?_
      refine lv_iconst (v := nI 1) hx hb dX3_closed_38 (by decide) ?_
      refine na_iadd hx hb dX3_closed_39 ?_
      refine va_put (D := D) (v := .int (nI ((S 0 4) + 1))) (ty := .int) hx hb hts hin_X3 tyX3 tyX3_ok nmX3 hown hX.1 hP hD hS 0 rfl rfl 17 (by decide) hf_70 (fun _ h9 => h9) rfl (by decide +kernel) rfl rfl (Nat.le_of_ble_eq_true rfl) dX3_closed_40 (fun H locs hP hD hS => ?_)
      have hP : va_P D vwCl (wM q k (up2 (up2 S 5 (iN x0) (bN b)) 0 4 ((S 0 4) + 1)) (up2 Z 0 0 0)) H := sP_M0_17 hP
      have hD : va_D A (wM q k (up2 (up2 S 5 (iN x0) (bN b)) 0 4 ((S 0 4) + 1)) (up2 Z 0 0 0)) := sD_M0_17 hD
      refine lv_iconst (v := nI 0) hx hb dX3_closed_43 (by decide) ?_
      refine lv_istore_n (lv' := [(3, .int (nI 0)), (0, .ref (q 0)), (1, .int x0), (2, .int (nI (bN b)))]) hx hb dX3_closed_44 rfl hl (by decide) rfl (fun ls hl => ?_)
      refine lv_iconst (v := nI 0) hx hb dX3_closed_45 (by decide) ?_
      refine lv_istore (lv' := [(4, .int (nI 0)), (3, .int (nI 0)), (0, .ref (q 0)), (1, .int x0), (2, .int (nI (bN b)))]) hx hb dX3_closed_46 hl (by decide) rfl (fun ls hl => ?_)
      have L48 : ∀ (n48 : Nat) (i : Nat) (f : Nat), (S 0 0 < i + n48) → (h1 : i ≤ S 0 0) → (h3 : f = sm ((up2 S 5 (iN x0) (bN b)) 5) 0 i) → ∀ (H : Heap) (locs : List Loc), va_P D vwCl (wM q k (up2 (up2 S 5 (iN x0) (bN b)) 0 4 ((S 0 4) + 1)) (up2 Z 0 0 0)) H → va_D A (wM q k (up2 (up2 S 5 (iN x0) (bN b)) 0 4 ((S 0 4) + 1)) (up2 Z 0 0 0)) → va_S A s.heap H locs → ∀ (ls : Array Slot), lv_has ls 5 [(4, .int (nI i)), (3, .int (nI f)), (0, .ref (q 0)), (1, .int x0), (2, .int (nI (bN b)))] → W p l e (headSpec wsX3_closed ({ frames := 2, cells := 0, slots := 0, locals := 43 } : Room)).room s m [.ref (q 0), .int x0, .int (nI (bN b))].toArray below meth c H locs 0 0 (MQ below (va_Qi (fun (r : Int32) (u : (Nat → Nat → Nat) × (Nat → Nat → Nat)) => (cd1 (isPc S x0) = 0 → r = nI (sm (clS S (iN x0) (bN b) 5) 0 (S 0 0))) ∧ u.1 = nS (cd1 (isPc S x0)) S (clS S (iN x0) (bN b)) ∧ u.2 = up2 Z 0 0 (cd1 (isPc S x0))) (fun u t => wE D (A) (wM q k u.1 u.2) t) (A)) [.ref (q 0), .int x0, .int (nI (bN b))].toArray s 0 0 A) (F0 m 48 ls []) := by
        intro n48
        induction n48 with
        | zero =>
          intro i f hfuel48 h1 h3 H locs hP hD hS ls hl
          exact absurd hfuel48 (by omega)
        | succ n48 ih48 =>
          intro i f hfuel48 h1 h3 H locs hP hD hS ls hl
          have f1 := g5 i
          have f2 := sm_le (a := 0) g5 i
          refine lv_iload hx hb dX3_closed_48 (lv_at hl 0 rfl) ?_
          refine lv_aload_n hx hb dX3_closed_50 rfl (lv_at hl 2 rfl) ?_
          refine va_get (D := D) (v := .int (nI (S 0 0))) hx hb hts hin_X3 hown hX.1 hP 0 rfl rfl 1 (by decide) hf_63 (fun _ h9 => h9) rfl dX3_closed_51 ?_
          refine na_icmp_ge (tgt := 81) hx hb (by omega) (by omega) dX3_closed_54 (by decide) (fun h_54 => ?_) (fun h_54 => ?_)
          · skip
            refine lv_iload_n hx hb dX3_closed_81 rfl (lv_at hl 1 rfl) ?_
            exact W.iret (v := nI f) hx hb hr (fun t ht hW => ⟨⟨_, ((up2 (up2 S 5 (iN x0) (bN b)) 0 4 ((S 0 4) + 1)), (up2 Z 0 0 0)), rfl, ⟨fun _ => by rw [h3, show i = S 0 0 by omega]; rfl, (nS_0 (cd1_0 (by unfold isPc; omega))).symm, by rw [show cd1 (isPc S x0) = 0 from cd1_0 (by unfold isPc; omega)]⟩, by rw [ht]; exact hP, hD⟩, hS.F ht⟩) hS.2.2 dX3_closed_82
          · skip
            refine lv_iload_n hx hb dX3_closed_57 rfl (lv_at hl 1 rfl) ?_
            refine lv_aload_n hx hb dX3_closed_58 rfl (lv_at hl 2 rfl) ?_
            refine va_get (D := D) (v := .ref (q 5)) hx hb hts hin_X3 hown hX.1 hP 0 rfl rfl 6 (by decide) hf_23 (fun _ h9 => h9) rfl dX3_closed_59 ?_
            refine lv_iload hx hb dX3_closed_62 (lv_at hl 0 rfl) ?_
            refine na_zald hx hb hX.1 hP 5 1 rfl rfl (by omega) (by decide) dX3_closed_64 ?_
            refine na_as (y := nI ((up2 S 5 (iN x0) (bN b)) 5 i)) rfl ?_
            refine na_if_eq (tgt := 72) hx hb (by omega) dX3_closed_65 (by decide) (fun h_65 => ?_) (fun h_65 => ?_)
            · skip
              refine lv_iconst (v := nI 0) hx hb dX3_closed_72 (by decide) ?_
              refine na_iadd hx hb dX3_closed_73 ?_
              refine lv_istore_n (lv' := [(3, .int (nI (f + 0))), (4, .int (nI i)), (0, .ref (q 0)), (1, .int x0), (2, .int (nI (bN b)))]) hx hb dX3_closed_74 rfl hl (by decide) rfl (fun ls hl => ?_)
              refine lv_iinc (v := nI (i + 1)) (lv' := [(4, .int (nI (i + 1))), (3, .int (nI (f + 0))), (0, .ref (q 0)), (1, .int x0), (2, .int (nI (bN b)))]) hx hb dX3_closed_75 hl (k := 1) rfl (nI_add _ 1) (by decide) rfl (fun ls hl => ?_)
              refine lv_goto (tgt := 48) hx hb dX3_closed_78 (by decide) ?_
              exact ih48 (i + 1) ((f + 0)) (by omega) (by omega) (by show _ = sm ((up2 S 5 (iN x0) (bN b)) 5) 0 i + (up2 S 5 (iN x0) (bN b)) 5 (0 + i); rw [Nat.zero_add]; omega) _ _ hP hD hS ls hl
            · skip
              refine lv_iconst (v := nI 1) hx hb dX3_closed_68 (by decide) ?_
              refine lv_goto (tgt := 73) hx hb dX3_closed_69 (by decide) ?_
              refine na_iadd hx hb dX3_closed_73 ?_
              refine lv_istore_n (lv' := [(3, .int (nI (f + 1))), (4, .int (nI i)), (0, .ref (q 0)), (1, .int x0), (2, .int (nI (bN b)))]) hx hb dX3_closed_74 rfl hl (by decide) rfl (fun ls hl => ?_)
              refine lv_iinc (v := nI (i + 1)) (lv' := [(4, .int (nI (i + 1))), (3, .int (nI (f + 1))), (0, .ref (q 0)), (1, .int x0), (2, .int (nI (bN b)))]) hx hb dX3_closed_75 hl (k := 1) rfl (nI_add _ 1) (by decide) rfl (fun ls hl => ?_)
              refine lv_goto (tgt := 48) hx hb dX3_closed_78 (by decide) ?_
              exact ih48 (i + 1) ((f + 1)) (by omega) (by omega) (by show _ = sm ((up2 S 5 (iN x0) (bN b)) 5) 0 i + (up2 S 5 (iN x0) (bN b)) 5 (0 + i); rw [Nat.zero_add]; omega) _ _ hP hD hS ls hl
      exact L48 (S 0 0 + 1) 0 0 (by omega) (by omega) rfl _ _ hP hD hS ls hl
    · exact absurd h_21 (by decide)
