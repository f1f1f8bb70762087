/-! The law's loop. -/
set_option maxHeartbeats 4000000 in
set_option maxRecDepth 100000 in
theorem lw_loop {p : Program} {l : Launch} {e : Env} {s : State} {m : MethodId} {below : List Frame} {meth : Method} {c : Code} {b L : Nat} {xs : Nat → Int32} {D : va_G} {k : Nat → ClassId} {g q r : Nat → Nat} {o : Nat} {Q : State → Prop} (C : LC p l s m c b L xs D k)
    (hend : ∀ (H : Heap) (locs : List Loc) (ls : Array Slot) (cells slots : Nat), va_S (fun q => s.heap.size ≤ q) s.heap H locs → cells ≤ 100000 → slots ≤ 1000000 → W p l e room_1 s m #[Value.ref b] below meth c H locs cells slots Q (F0 m 1352 ls [])) :
    ∀ (n T : Nat) (S Zm Zc : Nat → Nat → Nat) (f : Nat → Int64) (H : Heap) (locs : List Loc) (ls : Array Slot), 512 < T + n → T ≤ 512 → IV T S → CI S Zc → Rb (Zm 1) → va_P D vwCl (wL g q k r o S Zm S Zc f) H → va_D (fun q => s.heap.size ≤ q) (wL g q k r o S Zm S Zc f) → va_S (fun q => s.heap.size ≤ q) s.heap H locs → lv_has ls 7 (LL b q g o (6 * T)) → W p l e room_1 s m #[Value.ref b] below meth c H locs (200 + 5 * T) (4000 + 30 * T) Q (F0 m 23 ls []) := by
  have hF := C.1
  have hx := hF.1
  have hb := hF.2.1
  have hXs := C.2.2.1
  have hbl := C.2.2.2.1
  have hL := C.2.2.2.2.1
  intro n
  induction n with
  | zero =>
    intro T S Zm Zc f H locs ls h1 h2
    exact absurd h1 (by omega)
  | succ n ih =>
    intro T S Zm Zc f H locs ls h1 h2 hI hC hR hP hD hS hl
    refine lv_iload hx hb dL_law_23 (lv_at hl 4 rfl) ?_
    refine lv_aload_n hx hb dL_law_25 rfl (lv_at hl 0 rfl) ?_
    refine va_slen hx hb hXs hbl (Nat.not_le.mpr hbl) hS dL_law_26 ?_
    refine lv_bipush (v := nI 6) hx hb dL_law_27 (by decide) ?_
    refine lv_isub hx hb dL_law_29 ?_
    refine lv_icmp_gt (tgt := 1352) hx hb dL_law_30 (by decide) (fun _ => hend _ _ _ _ _ hS (by omega) (by omega)) (fun h => ?_)
    have hi : 6 * T + 6 ≤ L := lq_lt hL (by omega) h
    have N : LNx p l e s m below meth c b D k g q r o T (200 + 5 * T) (4000 + 30 * T) Q := fun S Zm Zc f H locs ls hI hC hR hP hD hS hl => by
      refine lv_iinc (v := nI (6 * (T + 1))) hx hb dL_law_1346 hl (k := 4) rfl (by rw [show Int32.ofInt 6 = nI 6 by decide, nI_add, show 6 * T + 6 = 6 * (T + 1) by omega]) (by decide) rfl (fun ls hl => ?_)
      refine lv_goto (tgt := 23) hx hb dL_law_1349 (by decide) ?_
      refine W.widen (k := 200 + 5 * (T + 1)) (n := 4000 + 30 * (T + 1)) (by omega) (by omega) ?_
      exact ih (T + 1) S Zm Zc f H locs ls (by omega) (by omega) hI hC hR hP hD hS (lv_sub hl [1, 2, 3, 4, 0] rfl)
    refine lv_aload_n hx hb dL_law_33 rfl (lv_at hl 0 rfl) ?_
    refine lv_iload hx hb dL_law_34 (lv_at hl 4 rfl) ?_
    refine va_sld hx hb hXs hbl (Nat.not_le.mpr hbl) hS (vp_in_nI (n := 6 * T) (N := L) (by omega) (by omega)) dL_law_36 ?_
    refine lv_bipush (v := nI 31) hx hb dL_law_37 (by decide) ?_
    refine lv_iand hx hb dL_law_39 ?_
    generalize xs (nI (6 * T)).toNatClampNeg &&& nI 31 = x
    by_cases h0 : x.toInt < 0 ∨ 16 < x.toInt
    · refine lv_tableOut (tgt := 1346) hx hb dL_law_40 h0 (by decide) ?_
      refine W.widen (k := 200 + 5 * T + 5) (n := 4000 + 30 * T + 30) (by omega) (by omega) ?_
      exact N S Zm Zc f H locs ls (hI.mono (Nat.le_succ T)) hC hR hP hD hS hl
    · have h3 : ¬ x.toInt < 0 := fun z => h0 (Or.inl z)
      have h4 : ¬ 16 < x.toInt := fun z => h0 (Or.inr z)
      rcases (show x.toInt = 0 ∨ x.toInt = 1 ∨ x.toInt = 2 ∨ x.toInt = 3 ∨ x.toInt = 4 ∨ x.toInt = 5 ∨ x.toInt = 6 ∨ x.toInt = 7 ∨ x.toInt = 8 ∨ x.toInt = 9 ∨ x.toInt = 10 ∨ x.toInt = 11 ∨ x.toInt = 12 ∨ x.toInt = 13 ∨ x.toInt = 14 ∨ x.toInt = 15 ∨ x.toInt = 16 by omega) with hj | hj | hj | hj | hj | hj | hj | hj | hj | hj | hj | hj | hj | hj | hj | hj | hj
      · exact lv_tableIn (tgt := 124) hx hb dL_law_40 h3 h4 (by rw [hj]; rfl) (by decide) (cs_piece C hi hI hC hR hP hD hS hl (by omega) (by omega) N)
      · exact lv_tableIn (tgt := 220) hx hb dL_law_40 h3 h4 (by rw [hj]; rfl) (by decide) (cs_join C hi hI hC hR hP hD hS hl (by omega) (by omega) N)
      · exact lv_tableIn (tgt := 324) hx hb dL_law_40 h3 h4 (by rw [hj]; rfl) (by decide) (cs_lift C hi hI hC hR hP hD hS hl (by omega) (by omega) N)
      · exact lv_tableIn (tgt := 404) hx hb dL_law_40 h3 h4 (by rw [hj]; rfl) (by decide) (cs_turn C hi hI hC hR hP hD hS hl (by omega) (by omega) N)
      · exact lv_tableIn (tgt := 500) hx hb dL_law_40 h3 h4 (by rw [hj]; rfl) (by decide) (cs_width C hi hI hC hR hP hD hS hl (by omega) (by omega) N)
      · exact lv_tableIn (tgt := 548) hx hb dL_law_40 h3 h4 (by rw [hj]; rfl) (by decide) (cs_zone C hi hI hC hR hP hD hS hl (by omega) (by omega) N)
      · exact lv_tableIn (tgt := 644) hx hb dL_law_40 h3 h4 (by rw [hj]; rfl) (by decide) (cs_closed C hi hI hC hR hP hD hS hl (by omega) (by omega) N)
      · exact lv_tableIn (tgt := 728) hx hb dL_law_40 h3 h4 (by rw [hj]; rfl) (by decide) (cs_robot C hi hI hC hR hP hD hS hl (by omega) (by omega) N)
      · exact lv_tableIn (tgt := 784) hx hb dL_law_40 h3 h4 (by rw [hj]; rfl) (by decide) (cs_way C hi hI hC hR hP hD hS hl (by omega) (by omega) N)
      · exact lv_tableIn (tgt := 876) hx hb dL_law_40 h3 h4 (by rw [hj]; rfl) (by decide) (cs_step C hi hI hC hR hP hD hS hl (by omega) (by omega) N)
      · exact lv_tableIn (tgt := 901) hx hb dL_law_40 h3 h4 (by rw [hj]; rfl) (by decide) (cs_same C hi hI hC hR hP hD hS hl (by omega) (by omega) N)
      · exact lv_tableIn (tgt := 1000) hx hb dL_law_40 h3 h4 (by rw [hj]; rfl) (by decide) (cs_charger C hi hI hC hR hP hD hS hl (by omega) (by omega) N)
      · exact lv_tableIn (tgt := 1056) hx hb dL_law_40 h3 h4 (by rw [hj]; rfl) (by decide) (cs_nearest C hi hI hC hR hP hD hS hl (by omega) (by omega) N)
      · exact lv_tableIn (tgt := 1136) hx hb dL_law_40 h3 h4 (by rw [hj]; rfl) (by decide) (cs_table C hi hI hC hR hP hD hS hl (by omega) (by omega) N)
      · exact lv_tableIn (tgt := 1204) hx hb dL_law_40 h3 h4 (by rw [hj]; rfl) (by decide) (cs_rows C hi hI hC hR hP hD hS hl (by omega) (by omega) N)
      · exact lv_tableIn (tgt := 1217) hx hb dL_law_40 h3 h4 (by rw [hj]; rfl) (by decide) (cs_plain C hi hI hC hR hP hD hS hl (by omega) (by omega) N)
      · exact lv_tableIn (tgt := 1321) hx hb dL_law_40 h3 h4 (by rw [hj]; rfl) (by decide) (cs_count C hi hI hC hR hP hD hS hl (by omega) (by omega) N)
